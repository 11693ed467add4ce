def RV_X7_when_16 (p1 : Int) (K : Nat) : Nat → Nat → xMi → Int
  | 0, e, σ => (if x_wr (σ 32 0 (p1.toNat)) = x_wr (-4) then (if x_wr 0 = 0 then (-4) else (e : Int)) else (if x_wr 1 = 0 then (-4) else (e : Int)))
  | k + 1, e, σ => (if x_wr (σ 32 0 (p1.toNat)) = x_wr (-4) then (RV_X7_when_16 p1 K k (e + 1) (S_X7_passes σ 0 K) ) else (if x_wr (σ 32 0 (p1.toNat)) = x_wr (-4) then (if x_wr 0 = 0 then (-4) else (e : Int)) else (if x_wr 1 = 0 then (-4) else (e : Int))))
def RS_X7_when_16 (p1 : Int) (K : Nat) : Nat → Nat → xMi → xMi
  | 0, e, σ => (if x_wr (σ 32 0 (p1.toNat)) = x_wr (-4) then (if x_wr 0 = 0 then (S_X7_putBack σ ) else (S_X7_putBack σ )) else (if x_wr 1 = 0 then (S_X7_putBack σ ) else (S_X7_putBack σ )))
  | k + 1, e, σ => (if x_wr (σ 32 0 (p1.toNat)) = x_wr (-4) then (RS_X7_when_16 p1 K k (e + 1) (S_X7_passes σ 0 K) ) else (if x_wr (σ 32 0 (p1.toNat)) = x_wr (-4) then (if x_wr 0 = 0 then (S_X7_putBack σ ) else (S_X7_putBack σ )) else (if x_wr 1 = 0 then (S_X7_putBack σ ) else (S_X7_putBack σ ))))
theorem lh_X7_when_16 (l : Launch) (n : Nat) (p1 : Int) (K : Nat) (hn : 154 ≤ n) (hK : K ≤ 6) (h1w : x_wr p1 = p1) : ∀ (k e : Nat) (σ : xMi) , e + k = 60 ∧ p1.toNat < 6 → (σ 24 0 0 = (K : Int)) →  x_G l RX7 cX7_when 4 (some .int) 3 n (some (xI (RV_X7_when_16 p1 K k e σ ))) (RS_X7_when_16 p1 K k e σ ) 16 [(2, xI (e : Int)), (0, xR 24 0), (1, xI ((p1.toNat : Nat) : Int))] [] σ := by
  intro k
  induction k with
  | zero =>
    intro e σ  hk hmy
    have hP6 : p1.toNat < 6 := hk.2
    refine g_iload_n dX7_when_16 rfl ?_
    refine g_bipush dX7_when_17 (by decide) ?_
    refine g_cmp_ge 45 dX7_when_19 rfl (fun c_19 => ?_) (fun c_19 => absurd (by rw [show x_wr 60 = 60 from by decide, x_nat (by omega)]; omega) c_19)
    refine g_aload_n dX7_when_45 rfl ?_
    refine g_getR (t2 := 32) (i2 := 0) dX7_when_46 fl_X7_31 (x_vM hn (Nat.le_of_ble_eq_true rfl) (Nat.le_of_ble_eq_true rfl)) rfl rfl rfl ?_
    refine g_iload_n dX7_when_49 rfl ?_
    refine g_iald (p1.toNat) dX7_when_50 rfl hP6 (x_vM hn (Nat.le_of_ble_eq_true rfl) (Nat.le_of_ble_eq_true rfl)) rfl ?_
    refine g_bipush dX7_when_51 (by decide) ?_
    refine g_cmp_eq 60 dX7_when_53 rfl (fun c_53 => ?_) (fun c_53 => ?_)
    · refine g_iconst dX7_when_60 ?_
      refine g_istore_n (lv' := [_, _, _, _]) dX7_when_61 (Nat.le_of_ble_eq_true rfl) rfl ?_
      refine g_aload_n dX7_when_62 rfl ?_
      refine f_Vv dX7_when_63 cs_X7_213 mb_X7_putBack (c_X7_putBack l n _  hn) rfl (x_vM hn (Nat.le_of_ble_eq_true rfl) (Nat.le_of_ble_eq_true rfl)) rfl rfl rfl (Nat.le_of_ble_eq_true rfl) (by decide) (Nat.le_of_ble_eq_true rfl) (Nat.le_refl _) (Nat.le_refl _) ?_
      refine g_iload_n dX7_when_66 rfl ?_
      refine g_if_eq 74 dX7_when_67 rfl (fun c_67 => ?_) (fun c_67 => ?_)
      · refine g_bipush dX7_when_74 (by decide) ?_
        exact f_iret dX7_when_76 (by rw [RV_X7_when_16, if_pos c_53, if_pos c_67]) (by rw [RS_X7_when_16, if_pos c_53, if_pos c_67])
      · refine g_iload_n dX7_when_70 rfl ?_
        refine g_goto 76 dX7_when_71 rfl ?_
        exact f_iret dX7_when_76 (by rw [RV_X7_when_16, if_pos c_53, if_neg c_67]) (by rw [RS_X7_when_16, if_pos c_53, if_neg c_67])
    · refine g_iconst dX7_when_56 ?_
      refine g_goto 61 dX7_when_57 rfl ?_
      refine g_istore_n (lv' := [_, _, _, _]) dX7_when_61 (Nat.le_of_ble_eq_true rfl) rfl ?_
      refine g_aload_n dX7_when_62 rfl ?_
      refine f_Vv dX7_when_63 cs_X7_213 mb_X7_putBack (c_X7_putBack l n _  hn) rfl (x_vM hn (Nat.le_of_ble_eq_true rfl) (Nat.le_of_ble_eq_true rfl)) rfl rfl rfl (Nat.le_of_ble_eq_true rfl) (by decide) (Nat.le_of_ble_eq_true rfl) (Nat.le_refl _) (Nat.le_refl _) ?_
      refine g_iload_n dX7_when_66 rfl ?_
      refine g_if_eq 74 dX7_when_67 rfl (fun c_67 => ?_) (fun c_67 => ?_)
      · refine g_bipush dX7_when_74 (by decide) ?_
        exact f_iret dX7_when_76 (by rw [RV_X7_when_16, if_neg c_53, if_pos c_67]) (by rw [RS_X7_when_16, if_neg c_53, if_pos c_67])
      · refine g_iload_n dX7_when_70 rfl ?_
        refine g_goto 76 dX7_when_71 rfl ?_
        exact f_iret dX7_when_76 (by rw [RV_X7_when_16, if_neg c_53, if_neg c_67]) (by rw [RS_X7_when_16, if_neg c_53, if_neg c_67])
  | succ k ih =>
    intro e σ  hk hmy
    have hP6 : p1.toNat < 6 := hk.2
    refine g_iload_n dX7_when_16 rfl ?_
    refine g_bipush dX7_when_17 (by decide) ?_
    refine g_cmp_ge 45 dX7_when_19 rfl (fun c_19 => absurd c_19 (by rw [show x_wr 60 = 60 from by decide, x_nat (by omega)]; omega)) (fun c_19 => ?_)
    refine g_aload_n dX7_when_22 rfl ?_
    refine g_getR (t2 := 32) (i2 := 0) dX7_when_23 fl_X7_31 (x_vM hn (Nat.le_of_ble_eq_true rfl) (Nat.le_of_ble_eq_true rfl)) rfl rfl rfl ?_
    refine g_iload_n dX7_when_26 rfl ?_
    refine g_iald (p1.toNat) dX7_when_27 rfl hP6 (x_vM hn (Nat.le_of_ble_eq_true rfl) (Nat.le_of_ble_eq_true rfl)) rfl ?_
    refine g_bipush dX7_when_28 (by decide) ?_
    refine g_cmp_ne 45 dX7_when_30 rfl (fun c_30 => ?_) (fun c_30 => ?_)
    · refine g_aload_n dX7_when_45 rfl ?_
      refine g_getR (t2 := 32) (i2 := 0) dX7_when_46 fl_X7_31 (x_vM hn (Nat.le_of_ble_eq_true rfl) (Nat.le_of_ble_eq_true rfl)) rfl rfl rfl ?_
      refine g_iload_n dX7_when_49 rfl ?_
      refine g_iald (p1.toNat) dX7_when_50 rfl hP6 (x_vM hn (Nat.le_of_ble_eq_true rfl) (Nat.le_of_ble_eq_true rfl)) rfl ?_
      refine g_bipush dX7_when_51 (by decide) ?_
      refine g_cmp_eq 60 dX7_when_53 rfl (fun c_53 => ?_) (fun c_53 => ?_)
      · refine g_iconst dX7_when_60 ?_
        refine g_istore_n (lv' := [_, _, _, _]) dX7_when_61 (Nat.le_of_ble_eq_true rfl) rfl ?_
        refine g_aload_n dX7_when_62 rfl ?_
        refine f_Vv dX7_when_63 cs_X7_213 mb_X7_putBack (c_X7_putBack l n _  hn) rfl (x_vM hn (Nat.le_of_ble_eq_true rfl) (Nat.le_of_ble_eq_true rfl)) rfl rfl rfl (Nat.le_of_ble_eq_true rfl) (by decide) (Nat.le_of_ble_eq_true rfl) (Nat.le_refl _) (Nat.le_refl _) ?_
        refine g_iload_n dX7_when_66 rfl ?_
        refine g_if_eq 74 dX7_when_67 rfl (fun c_67 => ?_) (fun c_67 => ?_)
        · refine g_bipush dX7_when_74 (by decide) ?_
          exact f_iret dX7_when_76 (by rw [RV_X7_when_16, if_neg c_30, if_pos c_53, if_pos c_67]) (by rw [RS_X7_when_16, if_neg c_30, if_pos c_53, if_pos c_67])
        · refine g_iload_n dX7_when_70 rfl ?_
          refine g_goto 76 dX7_when_71 rfl ?_
          exact f_iret dX7_when_76 (by rw [RV_X7_when_16, if_neg c_30, if_pos c_53, if_neg c_67]) (by rw [RS_X7_when_16, if_neg c_30, if_pos c_53, if_neg c_67])
      · refine g_iconst dX7_when_56 ?_
        refine g_goto 61 dX7_when_57 rfl ?_
        refine g_istore_n (lv' := [_, _, _, _]) dX7_when_61 (Nat.le_of_ble_eq_true rfl) rfl ?_
        refine g_aload_n dX7_when_62 rfl ?_
        refine f_Vv dX7_when_63 cs_X7_213 mb_X7_putBack (c_X7_putBack l n _  hn) rfl (x_vM hn (Nat.le_of_ble_eq_true rfl) (Nat.le_of_ble_eq_true rfl)) rfl rfl rfl (Nat.le_of_ble_eq_true rfl) (by decide) (Nat.le_of_ble_eq_true rfl) (Nat.le_refl _) (Nat.le_refl _) ?_
        refine g_iload_n dX7_when_66 rfl ?_
        refine g_if_eq 74 dX7_when_67 rfl (fun c_67 => ?_) (fun c_67 => ?_)
        · refine g_bipush dX7_when_74 (by decide) ?_
          exact f_iret dX7_when_76 (by rw [RV_X7_when_16, if_neg c_30, if_neg c_53, if_pos c_67]) (by rw [RS_X7_when_16, if_neg c_30, if_neg c_53, if_pos c_67])
        · refine g_iload_n dX7_when_70 rfl ?_
          refine g_goto 76 dX7_when_71 rfl ?_
          exact f_iret dX7_when_76 (by rw [RV_X7_when_16, if_neg c_30, if_neg c_53, if_neg c_67]) (by rw [RS_X7_when_16, if_neg c_30, if_neg c_53, if_neg c_67])
    · refine g_aload_n dX7_when_33 rfl ?_
      refine g_iconst dX7_when_34 ?_
      refine f_V dX7_when_35 cs_X7_158 mb_X7_passes (c_X7_passes l n _ 0 K hn hK hmy) rfl (x_vM hn (Nat.le_of_ble_eq_true rfl) (Nat.le_of_ble_eq_true rfl)) rfl rfl rfl (Nat.le_of_ble_eq_true rfl) (by decide) (Nat.le_of_ble_eq_true rfl) (Nat.le_refl _) (Nat.le_refl _) ?_
      refine g_pop dX7_when_38 rfl ?_
      refine g_iinc (lv' := [(2, xI (((e + 1) : Nat) : Int)), _, _]) dX7_when_39 (Nat.le_of_ble_eq_true rfl) rfl rfl ?_
      refine g_goto 16 dX7_when_42 rfl ?_
      refine g_sub (lv2 := [(2, xI (((e + 1) : Nat) : Int)), _, _]) [0, 1, 2] rfl ?_
      exact f_cv (by rw [RV_X7_when_16, if_pos c_30]) (by rw [RS_X7_when_16, if_pos c_30]) (ih (e + 1) _  (by omega) (by first | exact hmy | (simp (disch := omega) only [x_up_o, x_up_k, x_cp_o, fr_S_X7_passes]; exact hmy) | (simp (disch := first | omega | assumption) only [x_up_o, x_up_k, x_cp_o, fr_S_X7_passes]; exact hmy)))
def V_X7_when (σ : xMi) (p1 : Int) (K : Nat) : Int := (if x_wr (V_X7_isOne σ p1) = 0 then (-1) else (RV_X7_when_16 p1 K 60 0 (S_X7_start σ ) ))
def S_X7_when (σ : xMi) (p1 : Int) (K : Nat) : xMi := (if x_wr (V_X7_isOne σ p1) = 0 then σ else (RS_X7_when_16 p1 K 60 0 (S_X7_start σ ) ))
theorem c_X7_when (l : Launch) (n : Nat) (σ : xMi) (p1 : Int) (K : Nat) (hn : 154 ≤ n) (hK : K ≤ 6) (h1w : x_wr p1 = p1) (hmy : σ 24 0 0 = (K : Int)) : x_F l yX7_when RX7 cX7_when 4 (some .int) 3 n σ [xR 24 0, xI p1] (some (xI (V_X7_when σ p1 K))) (S_X7_when σ p1 K) := by
  refine f_of (by decide) rfl (Nat.le_of_ble_eq_true rfl) rfl ?_
  refine g_aload_n dX7_when_0 rfl ?_
  refine g_iload_n dX7_when_1 rfl ?_
  refine f_V dX7_when_2 cs_X7_162 mb_X7_isOne (c_X7_isOne l n _ p1 hn) rfl (x_vM hn (Nat.le_of_ble_eq_true rfl) (Nat.le_of_ble_eq_true rfl)) rfl rfl rfl (Nat.le_of_ble_eq_true rfl) (by decide) (Nat.le_of_ble_eq_true rfl) (Nat.le_refl _) (Nat.le_refl _) ?_
  refine g_if_ne 10 dX7_when_5 rfl (fun c_5 => ?_) (fun c_5 => ?_)
  · have hP := l_isOne h1w hK hmy c_5
    have hP6 := hP.2.2
    refine g_lveq (lv2 := [(0, xR 24 0), (1, xI ((p1.toNat : Nat) : Int))]) (by rw [← hP.1] <;> rfl) ?_
    refine g_aload_n dX7_when_10 rfl ?_
    refine f_Vv dX7_when_11 cs_X7_201 mb_X7_start (c_X7_start l n _  hn) rfl (x_vM hn (Nat.le_of_ble_eq_true rfl) (Nat.le_of_ble_eq_true rfl)) rfl rfl rfl (Nat.le_of_ble_eq_true rfl) (by decide) (Nat.le_of_ble_eq_true rfl) (Nat.le_refl _) (Nat.le_refl _) ?_
    refine g_iconst dX7_when_14 ?_
    refine g_istore_n (lv' := [_, _, _]) dX7_when_15 (Nat.le_of_ble_eq_true rfl) rfl ?_
    refine g_sub (lv2 := [(2, xI ((0 : Nat) : Int)), _, _]) [0, 1, 2] rfl ?_
    exact f_cv (by rw [V_X7_when, if_neg c_5]) (by rw [S_X7_when, if_neg c_5]) (lh_X7_when_16 l n p1 K hn hK h1w 60 0 _  (by omega) (by first | exact hmy | (simp (disch := omega) only [x_up_o, x_up_k, x_cp_o, fr_S_X7_start]; exact hmy) | (simp (disch := first | omega | assumption) only [x_up_o, x_up_k, x_cp_o, fr_S_X7_start]; exact hmy)))
  · refine g_iconst dX7_when_8 ?_
    exact f_iret dX7_when_9 (by rw [V_X7_when, if_pos c_5]) (by rw [S_X7_when, if_pos c_5])

def RV_X7_latest_24 (p1 : Int) (K : Nat) : Nat → xMi → Int
  | 0, σ => (if 0 ≤ x_wr (-1) then (-1) else (-4))
  | k + 1, σ => (if x_wr (V_X7_isSoftBy σ (p1.toNat) k K) = 0 then (RV_X7_latest_24 p1 K k (S_X7_isSoftBy σ (p1.toNat) k K) ) else (if 0 ≤ x_wr (k : Int) then (k : Int) else (-4)))
def RS_X7_latest_24 (p1 : Int) (K : Nat) : Nat → xMi → xMi
  | 0, σ => (if 0 ≤ x_wr (-1) then σ else σ)
  | k + 1, σ => (if x_wr (V_X7_isSoftBy σ (p1.toNat) k K) = 0 then (RS_X7_latest_24 p1 K k (S_X7_isSoftBy σ (p1.toNat) k K) ) else (if 0 ≤ x_wr (k : Int) then (S_X7_isSoftBy σ (p1.toNat) k K) else (S_X7_isSoftBy σ (p1.toNat) k K)))
theorem lh_X7_latest_24 (l : Launch) (n : Nat) (p1 : Int) (K : Nat) (hn : 154 ≤ n) (hK : K ≤ 6) (h1w : x_wr p1 = p1) : ∀ (k  : Nat) (σ : xMi) , k ≤ 41 ∧ p1.toNat < 6 → (σ 24 0 0 = (K : Int)) →  x_G l RX7 cX7_latest 3 (some .int) 5 n (some (xI (RV_X7_latest_24 p1 K k  σ ))) (RS_X7_latest_24 p1 K k  σ ) 24 [(2, xI ((k : Int) - 1)), (0, xR 24 0), (1, xI ((p1.toNat : Nat) : Int))] [] σ := by
  intro k
  induction k with
  | zero =>
    intro  σ  hk hmy
    have hP6 : p1.toNat < 6 := hk.2
    refine g_lveq (lv2 := [(2, xI (-1)), (0, xR 24 0), (1, xI ((p1.toNat : Nat) : Int))]) (by rfl) ?_
    refine g_iload_n dX7_latest_24 rfl ?_
    refine g_if_lt 43 dX7_latest_25 rfl (fun c_25 => ?_) (fun c_25 => absurd (by decide) c_25)
    refine g_iload_n dX7_latest_43 rfl ?_
    refine g_if_ge 52 dX7_latest_44 rfl (fun c_44 => ?_) (fun c_44 => ?_)
    · refine g_iload_n dX7_latest_52 rfl ?_
      exact f_iret dX7_latest_53 (by rw [RV_X7_latest_24, if_pos c_44]) (by rw [RS_X7_latest_24, if_pos c_44])
    · refine g_bipush dX7_latest_47 (by decide) ?_
      refine g_goto 53 dX7_latest_49 rfl ?_
      exact f_iret dX7_latest_53 (by rw [RV_X7_latest_24, if_neg c_44]) (by rw [RS_X7_latest_24, if_neg c_44])
  | succ k ih =>
    intro  σ  hk hmy
    have hP6 : p1.toNat < 6 := hk.2
    refine g_lveq (lv2 := [(2, xI (k : Int)), (0, xR 24 0), (1, xI ((p1.toNat : Nat) : Int))]) (by rw [show ((k + 1 : Nat) : Int) - 1 = (k : Int) by omega]) ?_
    refine g_iload_n dX7_latest_24 rfl ?_
    refine g_if_lt 43 dX7_latest_25 rfl (fun c_25 => absurd c_25 (by rw [x_nat (by omega)]; omega)) (fun c_25 => ?_)
    refine g_aload_n dX7_latest_28 rfl ?_
    refine g_iload_n dX7_latest_29 rfl ?_
    refine g_iload_n dX7_latest_30 rfl ?_
    refine f_V dX7_latest_31 cs_X7_219 mb_X7_isSoftBy (c_X7_isSoftBy l n _ (p1.toNat) k K hn hP6 (by omega) hK (by omega) hmy) rfl (x_vM hn (Nat.le_of_ble_eq_true rfl) (Nat.le_of_ble_eq_true rfl)) rfl rfl rfl (Nat.le_of_ble_eq_true rfl) (by decide) (Nat.le_of_ble_eq_true rfl) (Nat.le_refl _) (Nat.le_refl _) ?_
    refine g_if_ne 43 dX7_latest_34 rfl (fun c_34 => ?_) (fun c_34 => ?_)
    · refine g_iload_n dX7_latest_43 rfl ?_
      refine g_if_ge 52 dX7_latest_44 rfl (fun c_44 => ?_) (fun c_44 => ?_)
      · refine g_iload_n dX7_latest_52 rfl ?_
        exact f_iret dX7_latest_53 (by rw [RV_X7_latest_24, if_neg c_34, if_pos c_44]) (by rw [RS_X7_latest_24, if_neg c_34, if_pos c_44])
      · refine g_bipush dX7_latest_47 (by decide) ?_
        refine g_goto 53 dX7_latest_49 rfl ?_
        exact f_iret dX7_latest_53 (by rw [RV_X7_latest_24, if_neg c_34, if_neg c_44]) (by rw [RS_X7_latest_24, if_neg c_34, if_neg c_44])
    · refine g_iinc (lv' := [_, _, _]) dX7_latest_37 (Nat.le_of_ble_eq_true rfl) rfl rfl ?_
      refine g_goto 24 dX7_latest_40 rfl ?_
      refine g_sub (lv2 := [(2, xI (((k : Nat) : Int) - 1)), _, _]) [0, 1, 2] rfl ?_
      exact f_cv (by rw [RV_X7_latest_24, if_pos c_34]) (by rw [RS_X7_latest_24, if_pos c_34]) (ih  _  (by omega) (by first | exact hmy | (simp (disch := omega) only [x_up_o, x_up_k, x_cp_o, fr_S_X7_isSoftBy]; exact hmy) | (simp (disch := first | omega | assumption) only [x_up_o, x_up_k, x_cp_o, fr_S_X7_isSoftBy]; exact hmy)))
def V_X7_latest (σ : xMi) (p1 : Int) (K : Nat) : Int := (if x_wr (V_X7_isOne σ p1) = 0 then (-1) else (if x_wr (V_X7_isOpen σ (p1.toNat)) = 0 then (-2) else (RV_X7_latest_24 p1 K 41  σ )))
def S_X7_latest (σ : xMi) (p1 : Int) (K : Nat) : xMi := (if x_wr (V_X7_isOne σ p1) = 0 then σ else (if x_wr (V_X7_isOpen σ (p1.toNat)) = 0 then σ else (RS_X7_latest_24 p1 K 41  σ )))
theorem c_X7_latest (l : Launch) (n : Nat) (σ : xMi) (p1 : Int) (K : Nat) (hn : 154 ≤ n) (hK : K ≤ 6) (h1w : x_wr p1 = p1) (hmy : σ 24 0 0 = (K : Int)) : x_F l yX7_latest RX7 cX7_latest 3 (some .int) 5 n σ [xR 24 0, xI p1] (some (xI (V_X7_latest σ p1 K))) (S_X7_latest σ p1 K) := by
  refine f_of (by decide) rfl (Nat.le_of_ble_eq_true rfl) rfl ?_
  refine g_aload_n dX7_latest_0 rfl ?_
  refine g_iload_n dX7_latest_1 rfl ?_
  refine f_V dX7_latest_2 cs_X7_162 mb_X7_isOne (c_X7_isOne l n _ p1 hn) rfl (x_vM hn (Nat.le_of_ble_eq_true rfl) (Nat.le_of_ble_eq_true rfl)) rfl rfl rfl (Nat.le_of_ble_eq_true rfl) (by decide) (Nat.le_of_ble_eq_true rfl) (Nat.le_refl _) (Nat.le_refl _) ?_
  refine g_if_ne 10 dX7_latest_5 rfl (fun c_5 => ?_) (fun c_5 => ?_)
  · have hP := l_isOne h1w hK hmy c_5
    have hP6 := hP.2.2
    refine g_lveq (lv2 := [(0, xR 24 0), (1, xI ((p1.toNat : Nat) : Int))]) (by rw [← hP.1] <;> rfl) ?_
    refine g_aload_n dX7_latest_10 rfl ?_
    refine g_iload_n dX7_latest_11 rfl ?_
    refine f_V dX7_latest_12 cs_X7_173 mb_X7_isOpen (c_X7_isOpen l n _ (p1.toNat) hn hP6) rfl (x_vM hn (Nat.le_of_ble_eq_true rfl) (Nat.le_of_ble_eq_true rfl)) rfl rfl rfl (Nat.le_of_ble_eq_true rfl) (by decide) (Nat.le_of_ble_eq_true rfl) (Nat.le_refl _) (Nat.le_refl _) ?_
    refine g_if_ne 21 dX7_latest_15 rfl (fun c_15 => ?_) (fun c_15 => ?_)
    · refine g_bipush dX7_latest_21 (by decide) ?_
      refine g_istore_n (lv' := [_, _, _]) dX7_latest_23 (Nat.le_of_ble_eq_true rfl) rfl ?_
      refine g_sub (lv2 := [(2, xI (((41 : Nat) : Int) - 1)), _, _]) [0, 1, 2] rfl ?_
      exact f_cv (by rw [V_X7_latest, if_neg c_5, if_neg c_15]) (by rw [S_X7_latest, if_neg c_5, if_neg c_15]) (lh_X7_latest_24 l n p1 K hn hK h1w 41  _  (by omega) hmy)
    · refine g_bipush dX7_latest_18 (by decide) ?_
      exact f_iret dX7_latest_20 (by rw [V_X7_latest, if_neg c_5, if_pos c_15]) (by rw [S_X7_latest, if_neg c_5, if_pos c_15])
  · refine g_iconst dX7_latest_8 ?_
    exact f_iret dX7_latest_9 (by rw [V_X7_latest, if_pos c_5]) (by rw [S_X7_latest, if_pos c_5])

def RS_X7_firstRow_7 (K : Nat) : Nat → Nat → xMi → xMi
  | 0, p, σ => σ
  | k + 1, p, σ => (if x_wr (V_X7_isOpen σ p) = 0 then (RS_X7_firstRow_7 K k (p + 1) σ ) else (RS_X7_firstRow_7 K k (p + 1) (x_up (x_up σ 44 0 (σ 24 0 31).toNat (p : Int)) 24 0 31 (((x_up σ 44 0 (σ 24 0 31).toNat (p : Int)) 24 0 31) + 1)) ))
theorem fr_RS_X7_firstRow_7 (K : Nat) {t i k' : Nat} (h : ¬ ((t = 24 ∧ k' = 31) ∨ t = 44)) : ∀ (k p : Nat) (σ : xMi) , RS_X7_firstRow_7 K k p σ  t i k' = σ t i k' := by
  intro k
  induction k with
  | zero =>
    intro p σ 
    simp only [RS_X7_firstRow_7]
    all_goals ((repeat' split) <;> simp (disch := first | omega | assumption) only [x_up_o, x_up_k, x_cp_o])
  | succ k ih =>
    intro p σ 
    simp only [RS_X7_firstRow_7]
    all_goals (repeat' split)
    all_goals (first | rw [ih] | skip)
    all_goals first | done | simp (disch := first | omega | assumption) only [x_up_o, x_up_k, x_cp_o]
theorem lh_X7_firstRow_7 (l : Launch) (n : Nat)  (K : Nat) (hn : 154 ≤ n) (hK : K ≤ 6) : ∀ (k p : Nat) (σ : xMi) , p + k = K ∧ 0 ≤ σ 24 0 31 ∧ σ 24 0 31 ≤ (p : Int) → (σ 24 0 0 = (K : Int)) →  x_G l RX7 cX7_firstRow 2 none 1 n none (RS_X7_firstRow_7 K k p σ ) 7 [(1, xI (p : Int)), (0, xR 24 0)] [] σ := by
  intro k
  induction k with
  | zero =>
    intro p σ  hk hmy
    refine g_iload_n dX7_firstRow_7 rfl ?_
    refine g_aload_n dX7_firstRow_8 rfl ?_
    refine g_getI dX7_firstRow_9 fl_X7_84 (x_vM hn (Nat.le_of_ble_eq_true rfl) (Nat.le_of_ble_eq_true rfl)) rfl rfl ?_
    refine g_cmp_ge 49 dX7_firstRow_12 rfl (fun c_12 => ?_) (fun c_12 => absurd (by rw [hmy, x_nat (by omega), x_nat (by omega)]; omega) c_12)
    exact f_vret dX7_firstRow_49 rfl rfl
  | succ k ih =>
    intro p σ  hk hmy
    have hp : p < 6 := by omega
    refine g_iload_n dX7_firstRow_7 rfl ?_
    refine g_aload_n dX7_firstRow_8 rfl ?_
    refine g_getI dX7_firstRow_9 fl_X7_84 (x_vM hn (Nat.le_of_ble_eq_true rfl) (Nat.le_of_ble_eq_true rfl)) rfl rfl ?_
    refine g_cmp_ge 49 dX7_firstRow_12 rfl (fun c_12 => absurd c_12 (by rw [hmy, x_nat (by omega), x_nat (by omega)]; omega)) (fun c_12 => ?_)
    refine g_aload_n dX7_firstRow_15 rfl ?_
    refine g_iload_n dX7_firstRow_16 rfl ?_
    refine f_V dX7_firstRow_17 cs_X7_173 mb_X7_isOpen (c_X7_isOpen l n _ p hn hp) rfl (x_vM hn (Nat.le_of_ble_eq_true rfl) (Nat.le_of_ble_eq_true rfl)) rfl rfl rfl (Nat.le_of_ble_eq_true rfl) (by decide) (Nat.le_of_ble_eq_true rfl) (Nat.le_refl _) (Nat.le_refl _) ?_
    refine g_if_eq 43 dX7_firstRow_20 rfl (fun c_20 => ?_) (fun c_20 => ?_)
    · refine g_iinc (lv' := [(1, xI (((p + 1) : Nat) : Int)), _]) dX7_firstRow_43 (Nat.le_of_ble_eq_true rfl) rfl rfl ?_
      refine g_goto 7 dX7_firstRow_46 rfl ?_
      refine g_sub (lv2 := [(1, xI (((p + 1) : Nat) : Int)), _]) [0, 1] rfl ?_
      exact f_cv rfl (by rw [RS_X7_firstRow_7, if_pos c_20]) (ih (p + 1) _  (by first | omega | (simp [x_up]; omega)) hmy)
    · refine g_aload_n dX7_firstRow_23 rfl ?_
      refine g_getR (t2 := 44) (i2 := 0) dX7_firstRow_24 fl_X7_67 (x_vM hn (Nat.le_of_ble_eq_true rfl) (Nat.le_of_ble_eq_true rfl)) rfl rfl rfl ?_
      refine g_aload_n dX7_firstRow_27 rfl ?_
      refine g_getI dX7_firstRow_28 fl_X7_223 (x_vM hn (Nat.le_of_ble_eq_true rfl) (Nat.le_of_ble_eq_true rfl)) rfl rfl ?_
      refine g_eqI (((σ 24 0 31).toNat : Nat) : Int) (by omega) ?_
      refine g_iload_n dX7_firstRow_31 rfl ?_
      refine g_iast (σ 24 0 31).toNat dX7_firstRow_32 rfl (show (σ 24 0 31).toNat < 6 by omega) (x_vM hn (Nat.le_of_ble_eq_true rfl) (Nat.le_of_ble_eq_true rfl)) rfl ?_
      refine g_aload_n dX7_firstRow_33 rfl ?_
      refine g_dup dX7_firstRow_34 rfl ?_
      refine g_getI dX7_firstRow_35 fl_X7_223 (x_vM hn (Nat.le_of_ble_eq_true rfl) (Nat.le_of_ble_eq_true rfl)) rfl rfl ?_
      refine g_iconst dX7_firstRow_38 ?_
      refine g_iadd dX7_firstRow_39 ?_
      refine g_putI dX7_firstRow_40 fl_X7_223 (x_vM hn (Nat.le_of_ble_eq_true rfl) (Nat.le_of_ble_eq_true rfl)) rfl rfl ?_
      refine g_iinc (lv' := [(1, xI (((p + 1) : Nat) : Int)), _]) dX7_firstRow_43 (Nat.le_of_ble_eq_true rfl) rfl rfl ?_
      refine g_goto 7 dX7_firstRow_46 rfl ?_
      refine g_sub (lv2 := [(1, xI (((p + 1) : Nat) : Int)), _]) [0, 1] rfl ?_
      exact f_cv rfl (by rw [RS_X7_firstRow_7, if_neg c_20]) (ih (p + 1) _  (by first | omega | (simp [x_up]; omega)) (by first | exact hmy | (simp (disch := omega) only [x_up_o, x_up_k, x_cp_o]; exact hmy) | (simp (disch := first | omega | assumption) only [x_up_o, x_up_k, x_cp_o]; exact hmy)))
def S_X7_firstRow (σ : xMi) (K : Nat) : xMi := (RS_X7_firstRow_7 K K 0 (x_up σ 24 0 31 0) )
theorem fr_S_X7_firstRow (σ : xMi) (K : Nat) {t i k : Nat} (h : ¬ ((t = 24 ∧ k = 31) ∨ t = 44)) : S_X7_firstRow σ K t i k = σ t i k := by
  unfold S_X7_firstRow
  all_goals ((repeat' split) <;> first | rfl | simp (disch := first | omega | assumption) only [x_up_o, x_up_k, x_cp_o, fr_RS_X7_firstRow_7])
theorem c_X7_firstRow (l : Launch) (n : Nat) (σ : xMi)  (K : Nat) (hn : 154 ≤ n) (hK : K ≤ 6) (hmy : σ 24 0 0 = (K : Int)) : x_F l yX7_firstRow RX7 cX7_firstRow 2 none 1 n σ [xR 24 0] none (S_X7_firstRow σ K) := by
  refine f_of (by decide) rfl (Nat.le_of_ble_eq_true rfl) rfl ?_
  refine g_aload_n dX7_firstRow_0 rfl ?_
  refine g_iconst dX7_firstRow_1 ?_
  refine g_putI dX7_firstRow_2 fl_X7_223 (x_vM hn (Nat.le_of_ble_eq_true rfl) (Nat.le_of_ble_eq_true rfl)) rfl rfl ?_
  refine g_iconst dX7_firstRow_5 ?_
  refine g_istore_n (lv' := [_, _]) dX7_firstRow_6 (Nat.le_of_ble_eq_true rfl) rfl ?_
  refine g_sub (lv2 := [(1, xI ((0 : Nat) : Int)), _]) [0, 1] rfl ?_
  exact f_cv rfl rfl (lh_X7_firstRow_7 l n K hn hK K 0 _  (by simp [x_up]) (by first | exact hmy | (simp (disch := omega) only [x_up_o, x_up_k, x_cp_o]; exact hmy) | (simp (disch := first | omega | assumption) only [x_up_o, x_up_k, x_cp_o]; exact hmy)))
