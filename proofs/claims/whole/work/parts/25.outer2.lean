def RV_X6_kinds_25 (p1 : Int) (K : Nat) (z : Nat) : Nat → Nat → xMi → Int → Int
  | 0, e, σ, a => a
  | k + 1, e, σ, a => (if x_wr (V_X6_guessFits (x_up σ 6 2 (p1.toNat) (e : Int)) K z) = 0 then (RV_X6_kinds_25 p1 K z k (e + 1) (S_X6_guessFits (x_up σ 6 2 (p1.toNat) (e : Int)) K z) a) else (RV_X6_kinds_25 p1 K z k (e + 1) (S_X6_guessFits (x_up σ 6 2 (p1.toNat) (e : Int)) K z) (x_or a (x_shl 1 (e : Int)))))
def RS_X6_kinds_25 (p1 : Int) (K : Nat) (z : Nat) : Nat → Nat → xMi → Int → xMi
  | 0, e, σ, a => σ
  | k + 1, e, σ, a => (if x_wr (V_X6_guessFits (x_up σ 6 2 (p1.toNat) (e : Int)) K z) = 0 then (RS_X6_kinds_25 p1 K z k (e + 1) (S_X6_guessFits (x_up σ 6 2 (p1.toNat) (e : Int)) K z) a) else (RS_X6_kinds_25 p1 K z k (e + 1) (S_X6_guessFits (x_up σ 6 2 (p1.toNat) (e : Int)) K z) (x_or a (x_shl 1 (e : Int)))))
theorem lh_X6_kinds_25 (l : Launch) (n : Nat) (p1 : Int) (K : Nat) (z : Nat) (hn : 131 ≤ n) (hK : K ≤ 6) (hz6 : z ≤ 6) (h1w : x_wr p1 = p1) : ∀ (k e : Nat) (σ : xMi) (a : Int), e + k = 4 ∧ p1.toNat < 6 ∧ σ 5 2 4 = (K : Int) → (σ 5 0 4 = (K : Int)) → (σ 15 0 3 = (z : Int)) → (∀ k, 0 ≤ σ 17 0 k ∧ σ 17 0 k < 6) → (∀ k, 0 ≤ σ 16 0 k ∧ σ 16 0 k ≤ 40) →  x_G l RX6 cX6_kinds 4 (some .int) 6 n (some (xI (RV_X6_kinds_25 p1 K z k e σ a))) (RS_X6_kinds_25 p1 K z k e σ a) 25 [(3, xI (e : Int)), (2, xI a), (0, xR 23 0), (1, xI ((p1.toNat : Nat) : Int))] [] σ := by
  intro k
  induction k with
  | zero =>
    intro e σ a hk hsz hz hwh hdb
    refine g_iload_n dX6_kinds_25 rfl ?_
    refine g_iconst dX6_kinds_26 ?_
    refine g_cmp_ge 59 dX6_kinds_27 rfl (fun c_27 => ?_) (fun c_27 => absurd (by rw [show x_wr 4 = 4 from by decide, x_nat (by omega)]; omega) c_27)
    refine g_iload_n dX6_kinds_59 rfl ?_
    exact f_iret dX6_kinds_60 rfl rfl
  | succ k ih =>
    intro e σ a hk hsz hz hwh hdb
    have hP6 : p1.toNat < 6 := hk.2.1
    refine g_iload_n dX6_kinds_25 rfl ?_
    refine g_iconst dX6_kinds_26 ?_
    refine g_cmp_ge 59 dX6_kinds_27 rfl (fun c_27 => absurd c_27 (by rw [show x_wr 4 = 4 from by decide, x_nat (by omega)]; omega)) (fun c_27 => ?_)
    refine g_aload_n dX6_kinds_30 rfl ?_
    refine g_getR (t2 := 5) (i2 := 2) dX6_kinds_31 fl_X6_26 (x_vC hn (Nat.le_of_ble_eq_true rfl) (Nat.le_of_ble_eq_true rfl)) rfl rfl rfl ?_
    refine g_getR (t2 := 6) (i2 := 2) dX6_kinds_34 fl_X6_196 (x_vC hn (Nat.le_of_ble_eq_true rfl) (Nat.le_of_ble_eq_true rfl)) rfl rfl rfl ?_
    refine g_iload_n dX6_kinds_37 rfl ?_
    refine g_iload_n dX6_kinds_38 rfl ?_
    refine g_iast (p1.toNat) dX6_kinds_39 rfl hP6 (x_vC hn (Nat.le_of_ble_eq_true rfl) (Nat.le_of_ble_eq_true rfl)) rfl ?_
    refine g_aload_n dX6_kinds_40 rfl ?_
    refine f_V dX6_kinds_41 cs_X6_199 mb_X6_guessFits (c_X6_guessFits l n _ K z hn hK hz6 (by simp (disch := first | omega | assumption) only [x_up_o, x_cp_o]; exact hk.2.2) (by first | exact hz | (simp (disch := first | omega | assumption) only [x_up_o, x_up_k, x_cp_o]; exact hz)) (by first | exact hwh | (simp (disch := first | omega | assumption) only [x_up_o, x_up_k, x_cp_o]; exact hwh)) (by first | exact hdb | (simp (disch := first | omega | assumption) only [x_up_o, x_up_k, x_cp_o]; exact hdb))) rfl (x_vC hn (Nat.le_of_ble_eq_true rfl) (Nat.le_of_ble_eq_true rfl)) rfl rfl rfl (Nat.le_of_ble_eq_true rfl) (by decide) (Nat.le_of_ble_eq_true rfl) (Nat.le_refl _) (Nat.le_refl _) ?_
    refine g_if_eq 53 dX6_kinds_44 rfl (fun c_44 => ?_) (fun c_44 => ?_)
    · refine g_iinc (lv' := [(3, xI (((e + 1) : Nat) : Int)), _, _, _]) dX6_kinds_53 (Nat.le_of_ble_eq_true rfl) rfl rfl ?_
      refine g_goto 25 dX6_kinds_56 rfl ?_
      refine g_sub (lv2 := [(3, xI (((e + 1) : Nat) : Int)), _, _, _]) [0, 1, 2, 3] rfl ?_
      exact f_cv (by rw [RV_X6_kinds_25, if_pos c_44]) (by rw [RS_X6_kinds_25, if_pos c_44]) (ih (e + 1) _ _ (by refine ⟨by omega, by omega, ?_⟩; simp (disch := first | omega | assumption) only [x_up_o, x_cp_o, fr_S_X6_guessFits]; exact hk.2.2) (by first | exact hsz | (simp (disch := omega) only [x_up_o, x_up_k, x_cp_o, fr_S_X6_guessFits]; exact hsz) | (simp (disch := first | omega | assumption) only [x_up_o, x_up_k, x_cp_o, fr_S_X6_guessFits]; exact hsz)) (by first | exact hz | (simp (disch := omega) only [x_up_o, x_up_k, x_cp_o, fr_S_X6_guessFits]; exact hz) | (simp (disch := first | omega | assumption) only [x_up_o, x_up_k, x_cp_o, fr_S_X6_guessFits]; exact hz)) (by first | exact hwh | (simp (disch := omega) only [x_up_o, x_up_k, x_cp_o, fr_S_X6_guessFits]; exact hwh) | (simp (disch := first | omega | assumption) only [x_up_o, x_up_k, x_cp_o, fr_S_X6_guessFits]; exact hwh)) (by first | exact hdb | (simp (disch := omega) only [x_up_o, x_up_k, x_cp_o, fr_S_X6_guessFits]; exact hdb) | (simp (disch := first | omega | assumption) only [x_up_o, x_up_k, x_cp_o, fr_S_X6_guessFits]; exact hdb)))
    · refine g_iload_n dX6_kinds_47 rfl ?_
      refine g_iconst dX6_kinds_48 ?_
      refine g_iload_n dX6_kinds_49 rfl ?_
      refine g_ishl dX6_kinds_50 ?_
      refine g_ior dX6_kinds_51 ?_
      refine g_istore_n (lv' := [_, _, _, _]) dX6_kinds_52 (Nat.le_of_ble_eq_true rfl) rfl ?_
      refine g_iinc (lv' := [(3, xI (((e + 1) : Nat) : Int)), _, _, _]) dX6_kinds_53 (Nat.le_of_ble_eq_true rfl) rfl rfl ?_
      refine g_goto 25 dX6_kinds_56 rfl ?_
      refine g_sub (lv2 := [(3, xI (((e + 1) : Nat) : Int)), _, _, _]) [0, 1, 2, 3] rfl ?_
      exact f_cv (by rw [RV_X6_kinds_25, if_neg c_44]) (by rw [RS_X6_kinds_25, if_neg c_44]) (ih (e + 1) _ _ (by refine ⟨by omega, by omega, ?_⟩; simp (disch := first | omega | assumption) only [x_up_o, x_cp_o, fr_S_X6_guessFits]; exact hk.2.2) (by first | exact hsz | (simp (disch := omega) only [x_up_o, x_up_k, x_cp_o, fr_S_X6_guessFits]; exact hsz) | (simp (disch := first | omega | assumption) only [x_up_o, x_up_k, x_cp_o, fr_S_X6_guessFits]; exact hsz)) (by first | exact hz | (simp (disch := omega) only [x_up_o, x_up_k, x_cp_o, fr_S_X6_guessFits]; exact hz) | (simp (disch := first | omega | assumption) only [x_up_o, x_up_k, x_cp_o, fr_S_X6_guessFits]; exact hz)) (by first | exact hwh | (simp (disch := omega) only [x_up_o, x_up_k, x_cp_o, fr_S_X6_guessFits]; exact hwh) | (simp (disch := first | omega | assumption) only [x_up_o, x_up_k, x_cp_o, fr_S_X6_guessFits]; exact hwh)) (by first | exact hdb | (simp (disch := omega) only [x_up_o, x_up_k, x_cp_o, fr_S_X6_guessFits]; exact hdb) | (simp (disch := first | omega | assumption) only [x_up_o, x_up_k, x_cp_o, fr_S_X6_guessFits]; exact hdb)))
def V_X6_kinds (σ : xMi) (p1 : Int) (K : Nat) (z : Nat) : Int := (if x_wr (V_X6_isPerson σ p1) = 0 then (-1) else (RV_X6_kinds_25 p1 K z 4 0 (S_X3_copyFrom σ 2 0) 0))
def S_X6_kinds (σ : xMi) (p1 : Int) (K : Nat) (z : Nat) : xMi := (if x_wr (V_X6_isPerson σ p1) = 0 then σ else (RS_X6_kinds_25 p1 K z 4 0 (S_X3_copyFrom σ 2 0) 0))
theorem c_X6_kinds (l : Launch) (n : Nat) (σ : xMi) (p1 : Int) (K : Nat) (z : Nat) (hn : 131 ≤ n) (hK : K ≤ 6) (hz6 : z ≤ 6) (h1w : x_wr p1 = p1) (hsz : σ 5 0 4 = (K : Int)) (hz : σ 15 0 3 = (z : Int)) (hwh : ∀ k, 0 ≤ σ 17 0 k ∧ σ 17 0 k < 6) (hdb : ∀ k, 0 ≤ σ 16 0 k ∧ σ 16 0 k ≤ 40) : x_F l yX6_kinds RX6 cX6_kinds 4 (some .int) 6 n σ [xR 23 0, xI p1] (some (xI (V_X6_kinds σ p1 K z))) (S_X6_kinds σ p1 K z) := by
  refine f_of (by decide) rfl (Nat.le_of_ble_eq_true rfl) rfl ?_
  refine g_aload_n dX6_kinds_0 rfl ?_
  refine g_iload_n dX6_kinds_1 rfl ?_
  refine f_V dX6_kinds_2 cs_X6_102 mb_X6_isPerson (c_X6_isPerson l n _ p1 hn) rfl (x_vC hn (Nat.le_of_ble_eq_true rfl) (Nat.le_of_ble_eq_true rfl)) rfl rfl rfl (Nat.le_of_ble_eq_true rfl) (by decide) (Nat.le_of_ble_eq_true rfl) (Nat.le_refl _) (Nat.le_refl _) ?_
  refine g_if_ne 10 dX6_kinds_5 rfl (fun c_5 => ?_) (fun c_5 => ?_)
  · have hP := l_isPerson h1w hK hsz c_5
    have hP6 := hP.2.2
    refine g_lveq (lv2 := [(0, xR 23 0), (1, xI ((p1.toNat : Nat) : Int))]) (by rw [← hP.1] <;> rfl) ?_
    refine g_iconst dX6_kinds_10 ?_
    refine g_istore_n (lv' := [_, _, _]) dX6_kinds_11 (Nat.le_of_ble_eq_true rfl) rfl ?_
    refine g_aload_n dX6_kinds_12 rfl ?_
    refine g_getR (t2 := 5) (i2 := 2) dX6_kinds_13 fl_X6_26 (x_vC hn (Nat.le_of_ble_eq_true rfl) (Nat.le_of_ble_eq_true rfl)) rfl rfl rfl ?_
    refine g_aload_n dX6_kinds_16 rfl ?_
    refine g_getR (t2 := 5) (i2 := 0) dX6_kinds_17 fl_X6_19 (x_vC hn (Nat.le_of_ble_eq_true rfl) (Nat.le_of_ble_eq_true rfl)) rfl rfl rfl ?_
    refine f_Vv dX6_kinds_20 cs_X6_194 mb_X3_copyFrom (c_X3_copyFrom l n _ 2 0 hn (Nat.le_of_ble_eq_true rfl) (Nat.le_of_ble_eq_true rfl)) rfl (x_vC hn (Nat.le_of_ble_eq_true rfl) (Nat.le_of_ble_eq_true rfl)) rfl rfl rfl (Nat.le_of_ble_eq_true rfl) (by decide) (Nat.le_of_ble_eq_true rfl) (Nat.le_refl _) (Nat.le_refl _) ?_
    refine g_iconst dX6_kinds_23 ?_
    refine g_istore_n (lv' := [_, _, _, _]) dX6_kinds_24 (Nat.le_of_ble_eq_true rfl) rfl ?_
    refine g_sub (lv2 := [(3, xI ((0 : Nat) : Int)), _, _, _]) [0, 1, 2, 3] rfl ?_
    exact f_cv (by rw [V_X6_kinds, if_neg c_5]) (by rw [S_X6_kinds, if_neg c_5]) (lh_X6_kinds_25 l n p1 K z hn hK hz6 h1w 4 0 _ _ (by refine ⟨by omega, hP6, ?_⟩; rw [l_cpsize]; exact hsz) (by first | exact hsz | (simp (disch := omega) only [x_up_o, x_up_k, x_cp_o, fr_S_X3_copyFrom]; exact hsz) | (simp (disch := first | omega | assumption) only [x_up_o, x_up_k, x_cp_o, fr_S_X3_copyFrom]; exact hsz)) (by first | exact hz | (simp (disch := omega) only [x_up_o, x_up_k, x_cp_o, fr_S_X3_copyFrom]; exact hz) | (simp (disch := first | omega | assumption) only [x_up_o, x_up_k, x_cp_o, fr_S_X3_copyFrom]; exact hz)) (by first | exact hwh | (simp (disch := omega) only [x_up_o, x_up_k, x_cp_o, fr_S_X3_copyFrom]; exact hwh) | (simp (disch := first | omega | assumption) only [x_up_o, x_up_k, x_cp_o, fr_S_X3_copyFrom]; exact hwh)) (by first | exact hdb | (simp (disch := omega) only [x_up_o, x_up_k, x_cp_o, fr_S_X3_copyFrom]; exact hdb) | (simp (disch := first | omega | assumption) only [x_up_o, x_up_k, x_cp_o, fr_S_X3_copyFrom]; exact hdb)))
  · refine g_iconst dX6_kinds_8 ?_
    exact f_iret dX6_kinds_9 (by rw [V_X6_kinds, if_pos c_5]) (by rw [S_X6_kinds, if_pos c_5])

def RV_X6_days_40 (p1 : Int) (w1 : Int) (K : Nat) (z : Nat) : Nat → xMi → Int → Int → Int
  | 0, σ, a, b2 => (if x_wr w1 = 0 then a else b2)
  | k + 1, σ, a, b2 => (if x_wr (V_X6_guessFits (x_up σ 8 2 (p1.toNat) (k : Int)) K z) = 0 then (RV_X6_days_40 p1 w1 K z k (S_X6_guessFits (x_up σ 8 2 (p1.toNat) (k : Int)) K z) a b2) else (RV_X6_days_40 p1 w1 K z k (S_X6_guessFits (x_up σ 8 2 (p1.toNat) (k : Int)) K z) (a + 1) (k : Int)))
def RS_X6_days_40 (p1 : Int) (w1 : Int) (K : Nat) (z : Nat) : Nat → xMi → Int → Int → xMi
  | 0, σ, a, b2 => (if x_wr w1 = 0 then σ else σ)
  | k + 1, σ, a, b2 => (if x_wr (V_X6_guessFits (x_up σ 8 2 (p1.toNat) (k : Int)) K z) = 0 then (RS_X6_days_40 p1 w1 K z k (S_X6_guessFits (x_up σ 8 2 (p1.toNat) (k : Int)) K z) a b2) else (RS_X6_days_40 p1 w1 K z k (S_X6_guessFits (x_up σ 8 2 (p1.toNat) (k : Int)) K z) (a + 1) (k : Int)))
theorem lh_X6_days_40 (l : Launch) (n : Nat) (p1 : Int) (w1 : Int) (K : Nat) (z : Nat) (hn : 131 ≤ n) (hK : K ≤ 6) (hz6 : z ≤ 6) (h1w : x_wr p1 = p1) : ∀ (k  : Nat) (σ : xMi) (a : Int) (b2 : Int), k ≤ 41 ∧ p1.toNat < 6 ∧ σ 5 2 4 = (K : Int) → (σ 5 0 4 = (K : Int)) → (σ 15 0 3 = (z : Int)) → (∀ k, 0 ≤ σ 17 0 k ∧ σ 17 0 k < 6) → (∀ k, 0 ≤ σ 16 0 k ∧ σ 16 0 k ≤ 40) →  x_G l RX6 cX6_days 6 (some .int) 6 n (some (xI (RV_X6_days_40 p1 w1 K z k  σ a b2))) (RS_X6_days_40 p1 w1 K z k  σ a b2) 40 [(5, xI ((k : Int) - 1)), (3, xI a), (4, xI b2), (0, xR 23 0), (1, xI ((p1.toNat : Nat) : Int)), (2, xI w1)] [] σ := by
  intro k
  induction k with
  | zero =>
    intro  σ a b2 hk hsz hz hwh hdb
    refine g_lveq (lv2 := [(5, xI (-1)), (3, xI a), (4, xI b2), (0, xR 23 0), (1, xI ((p1.toNat : Nat) : Int)), (2, xI w1)]) (by rfl) ?_
    refine g_iload dX6_days_40 rfl ?_
    refine g_if_lt 76 dX6_days_42 rfl (fun c_42 => ?_) (fun c_42 => absurd (by decide) c_42)
    refine g_iload_n dX6_days_76 rfl ?_
    refine g_if_ne 84 dX6_days_77 rfl (fun c_77 => ?_) (fun c_77 => ?_)
    · refine g_iload dX6_days_84 rfl ?_
      exact f_iret dX6_days_86 (by rw [RV_X6_days_40, if_neg c_77]) (by rw [RS_X6_days_40, if_neg c_77])
    · refine g_iload_n dX6_days_80 rfl ?_
      refine g_goto 86 dX6_days_81 rfl ?_
      exact f_iret dX6_days_86 (by rw [RV_X6_days_40, if_pos c_77]) (by rw [RS_X6_days_40, if_pos c_77])
  | succ k ih =>
    intro  σ a b2 hk hsz hz hwh hdb
    have hP6 : p1.toNat < 6 := hk.2.1
    refine g_lveq (lv2 := [(5, xI (k : Int)), (3, xI a), (4, xI b2), (0, xR 23 0), (1, xI ((p1.toNat : Nat) : Int)), (2, xI w1)]) (by rw [show ((k + 1 : Nat) : Int) - 1 = (k : Int) by omega]) ?_
    refine g_iload dX6_days_40 rfl ?_
    refine g_if_lt 76 dX6_days_42 rfl (fun c_42 => absurd c_42 (by rw [x_nat (by omega)]; omega)) (fun c_42 => ?_)
    refine g_aload_n dX6_days_45 rfl ?_
    refine g_getR (t2 := 5) (i2 := 2) dX6_days_46 fl_X6_26 (x_vC hn (Nat.le_of_ble_eq_true rfl) (Nat.le_of_ble_eq_true rfl)) rfl rfl rfl ?_
    refine g_getR (t2 := 8) (i2 := 2) dX6_days_49 fl_X6_203 (x_vC hn (Nat.le_of_ble_eq_true rfl) (Nat.le_of_ble_eq_true rfl)) rfl rfl rfl ?_
    refine g_iload_n dX6_days_52 rfl ?_
    refine g_iload dX6_days_53 rfl ?_
    refine g_iast (p1.toNat) dX6_days_55 rfl hP6 (x_vC hn (Nat.le_of_ble_eq_true rfl) (Nat.le_of_ble_eq_true rfl)) rfl ?_
    refine g_aload_n dX6_days_56 rfl ?_
    refine f_V dX6_days_57 cs_X6_199 mb_X6_guessFits (c_X6_guessFits l n _ K z hn hK hz6 (by simp (disch := first | omega | assumption) only [x_up_o, x_cp_o]; exact hk.2.2) (by first | exact hz | (simp (disch := first | omega | assumption) only [x_up_o, x_up_k, x_cp_o]; exact hz)) (by first | exact hwh | (simp (disch := first | omega | assumption) only [x_up_o, x_up_k, x_cp_o]; exact hwh)) (by first | exact hdb | (simp (disch := first | omega | assumption) only [x_up_o, x_up_k, x_cp_o]; exact hdb))) rfl (x_vC hn (Nat.le_of_ble_eq_true rfl) (Nat.le_of_ble_eq_true rfl)) rfl rfl rfl (Nat.le_of_ble_eq_true rfl) (by decide) (Nat.le_of_ble_eq_true rfl) (Nat.le_refl _) (Nat.le_refl _) ?_
    refine g_if_eq 70 dX6_days_60 rfl (fun c_60 => ?_) (fun c_60 => ?_)
    · refine g_iinc (lv' := [_, _, _, _, _, _]) dX6_days_70 (Nat.le_of_ble_eq_true rfl) rfl rfl ?_
      refine g_goto 40 dX6_days_73 rfl ?_
      refine g_sub (lv2 := [(5, xI (((k : Nat) : Int) - 1)), _, _, _, _, _]) [0, 1, 2, 3, 4, 5] rfl ?_
      exact f_cv (by rw [RV_X6_days_40, if_pos c_60]) (by rw [RS_X6_days_40, if_pos c_60]) (ih  _ _ _ (by refine ⟨by omega, by omega, ?_⟩; simp (disch := first | omega | assumption) only [x_up_o, x_cp_o, fr_S_X6_guessFits]; exact hk.2.2) (by first | exact hsz | (simp (disch := omega) only [x_up_o, x_up_k, x_cp_o, fr_S_X6_guessFits]; exact hsz) | (simp (disch := first | omega | assumption) only [x_up_o, x_up_k, x_cp_o, fr_S_X6_guessFits]; exact hsz)) (by first | exact hz | (simp (disch := omega) only [x_up_o, x_up_k, x_cp_o, fr_S_X6_guessFits]; exact hz) | (simp (disch := first | omega | assumption) only [x_up_o, x_up_k, x_cp_o, fr_S_X6_guessFits]; exact hz)) (by first | exact hwh | (simp (disch := omega) only [x_up_o, x_up_k, x_cp_o, fr_S_X6_guessFits]; exact hwh) | (simp (disch := first | omega | assumption) only [x_up_o, x_up_k, x_cp_o, fr_S_X6_guessFits]; exact hwh)) (by first | exact hdb | (simp (disch := omega) only [x_up_o, x_up_k, x_cp_o, fr_S_X6_guessFits]; exact hdb) | (simp (disch := first | omega | assumption) only [x_up_o, x_up_k, x_cp_o, fr_S_X6_guessFits]; exact hdb)))
    · refine g_iinc (lv' := [_, _, _, _, _, _]) dX6_days_63 (Nat.le_of_ble_eq_true rfl) rfl rfl ?_
      refine g_iload dX6_days_66 rfl ?_
      refine g_istore (lv' := [_, _, _, _, _, _]) dX6_days_68 (Nat.le_of_ble_eq_true rfl) rfl ?_
      refine g_iinc (lv' := [_, _, _, _, _, _]) dX6_days_70 (Nat.le_of_ble_eq_true rfl) rfl rfl ?_
      refine g_goto 40 dX6_days_73 rfl ?_
      refine g_sub (lv2 := [(5, xI (((k : Nat) : Int) - 1)), _, _, _, _, _]) [0, 2, 1, 3, 4, 5] rfl ?_
      exact f_cv (by rw [RV_X6_days_40, if_neg c_60]) (by rw [RS_X6_days_40, if_neg c_60]) (ih  _ _ _ (by refine ⟨by omega, by omega, ?_⟩; simp (disch := first | omega | assumption) only [x_up_o, x_cp_o, fr_S_X6_guessFits]; exact hk.2.2) (by first | exact hsz | (simp (disch := omega) only [x_up_o, x_up_k, x_cp_o, fr_S_X6_guessFits]; exact hsz) | (simp (disch := first | omega | assumption) only [x_up_o, x_up_k, x_cp_o, fr_S_X6_guessFits]; exact hsz)) (by first | exact hz | (simp (disch := omega) only [x_up_o, x_up_k, x_cp_o, fr_S_X6_guessFits]; exact hz) | (simp (disch := first | omega | assumption) only [x_up_o, x_up_k, x_cp_o, fr_S_X6_guessFits]; exact hz)) (by first | exact hwh | (simp (disch := omega) only [x_up_o, x_up_k, x_cp_o, fr_S_X6_guessFits]; exact hwh) | (simp (disch := first | omega | assumption) only [x_up_o, x_up_k, x_cp_o, fr_S_X6_guessFits]; exact hwh)) (by first | exact hdb | (simp (disch := omega) only [x_up_o, x_up_k, x_cp_o, fr_S_X6_guessFits]; exact hdb) | (simp (disch := first | omega | assumption) only [x_up_o, x_up_k, x_cp_o, fr_S_X6_guessFits]; exact hdb)))
def V_X6_days (σ : xMi) (p1 : Int) (w1 : Int) (K : Nat) (z : Nat) : Int := (if x_wr (V_X6_isPerson σ p1) = 0 then (-1) else (if x_wr w1 < 0 then (-1) else (if x_wr w1 ≤ x_wr 1 then (RV_X6_days_40 p1 w1 K z 41  (S_X3_copyFrom σ 2 0) 0 (-4)) else (-1))))
def S_X6_days (σ : xMi) (p1 : Int) (w1 : Int) (K : Nat) (z : Nat) : xMi := (if x_wr (V_X6_isPerson σ p1) = 0 then σ else (if x_wr w1 < 0 then σ else (if x_wr w1 ≤ x_wr 1 then (RS_X6_days_40 p1 w1 K z 41  (S_X3_copyFrom σ 2 0) 0 (-4)) else σ)))
theorem c_X6_days (l : Launch) (n : Nat) (σ : xMi) (p1 : Int) (w1 : Int) (K : Nat) (z : Nat) (hn : 131 ≤ n) (hK : K ≤ 6) (hz6 : z ≤ 6) (h1w : x_wr p1 = p1) (hsz : σ 5 0 4 = (K : Int)) (hz : σ 15 0 3 = (z : Int)) (hwh : ∀ k, 0 ≤ σ 17 0 k ∧ σ 17 0 k < 6) (hdb : ∀ k, 0 ≤ σ 16 0 k ∧ σ 16 0 k ≤ 40) : x_F l yX6_days RX6 cX6_days 6 (some .int) 6 n σ [xR 23 0, xI p1, xI w1] (some (xI (V_X6_days σ p1 w1 K z))) (S_X6_days σ p1 w1 K z) := by
  refine f_of (by decide) rfl (Nat.le_of_ble_eq_true rfl) rfl ?_
  refine g_aload_n dX6_days_0 rfl ?_
  refine g_iload_n dX6_days_1 rfl ?_
  refine f_V dX6_days_2 cs_X6_102 mb_X6_isPerson (c_X6_isPerson l n _ p1 hn) rfl (x_vC hn (Nat.le_of_ble_eq_true rfl) (Nat.le_of_ble_eq_true rfl)) rfl rfl rfl (Nat.le_of_ble_eq_true rfl) (by decide) (Nat.le_of_ble_eq_true rfl) (Nat.le_refl _) (Nat.le_refl _) ?_
  refine g_if_eq 17 dX6_days_5 rfl (fun c_5 => ?_) (fun c_5 => ?_)
  · refine g_iconst dX6_days_17 ?_
    exact f_iret dX6_days_18 (by rw [V_X6_days, if_pos c_5]) (by rw [S_X6_days, if_pos c_5])
  · refine g_iload_n dX6_days_8 rfl ?_
    refine g_if_lt 17 dX6_days_9 rfl (fun c_9 => ?_) (fun c_9 => ?_)
    · refine g_iconst dX6_days_17 ?_
      exact f_iret dX6_days_18 (by rw [V_X6_days, if_neg c_5, if_pos c_9]) (by rw [S_X6_days, if_neg c_5, if_pos c_9])
    · refine g_iload_n dX6_days_12 rfl ?_
      refine g_iconst dX6_days_13 ?_
      refine g_cmp_le 19 dX6_days_14 rfl (fun c_14 => ?_) (fun c_14 => ?_)
      · have hP := l_isPerson h1w hK hsz c_5
        have hP6 := hP.2.2
        refine g_lveq (lv2 := [(0, xR 23 0), (1, xI ((p1.toNat : Nat) : Int)), (2, xI w1)]) (by rw [← hP.1] <;> rfl) ?_
        refine g_iconst dX6_days_19 ?_
        refine g_istore_n (lv' := [_, _, _, _]) dX6_days_20 (Nat.le_of_ble_eq_true rfl) rfl ?_
        refine g_bipush dX6_days_21 (by decide) ?_
        refine g_istore (lv' := [_, _, _, _, _]) dX6_days_23 (Nat.le_of_ble_eq_true rfl) rfl ?_
        refine g_aload_n dX6_days_25 rfl ?_
        refine g_getR (t2 := 5) (i2 := 2) dX6_days_26 fl_X6_26 (x_vC hn (Nat.le_of_ble_eq_true rfl) (Nat.le_of_ble_eq_true rfl)) rfl rfl rfl ?_
        refine g_aload_n dX6_days_29 rfl ?_
        refine g_getR (t2 := 5) (i2 := 0) dX6_days_30 fl_X6_19 (x_vC hn (Nat.le_of_ble_eq_true rfl) (Nat.le_of_ble_eq_true rfl)) rfl rfl rfl ?_
        refine f_Vv dX6_days_33 cs_X6_194 mb_X3_copyFrom (c_X3_copyFrom l n _ 2 0 hn (Nat.le_of_ble_eq_true rfl) (Nat.le_of_ble_eq_true rfl)) rfl (x_vC hn (Nat.le_of_ble_eq_true rfl) (Nat.le_of_ble_eq_true rfl)) rfl rfl rfl (Nat.le_of_ble_eq_true rfl) (by decide) (Nat.le_of_ble_eq_true rfl) (Nat.le_refl _) (Nat.le_refl _) ?_
        refine g_bipush dX6_days_36 (by decide) ?_
        refine g_istore (lv' := [_, _, _, _, _, _]) dX6_days_38 (Nat.le_of_ble_eq_true rfl) rfl ?_
        refine g_sub (lv2 := [(5, xI (((41 : Nat) : Int) - 1)), _, _, _, _, _]) [0, 2, 1, 3, 4, 5] rfl ?_
        exact f_cv (by rw [V_X6_days, if_neg c_5, if_neg c_9, if_pos c_14]) (by rw [S_X6_days, if_neg c_5, if_neg c_9, if_pos c_14]) (lh_X6_days_40 l n p1 w1 K z hn hK hz6 h1w 41  _ _ _ (by refine ⟨by omega, hP6, ?_⟩; rw [l_cpsize]; exact hsz) (by first | exact hsz | (simp (disch := omega) only [x_up_o, x_up_k, x_cp_o, fr_S_X3_copyFrom]; exact hsz) | (simp (disch := first | omega | assumption) only [x_up_o, x_up_k, x_cp_o, fr_S_X3_copyFrom]; exact hsz)) (by first | exact hz | (simp (disch := omega) only [x_up_o, x_up_k, x_cp_o, fr_S_X3_copyFrom]; exact hz) | (simp (disch := first | omega | assumption) only [x_up_o, x_up_k, x_cp_o, fr_S_X3_copyFrom]; exact hz)) (by first | exact hwh | (simp (disch := omega) only [x_up_o, x_up_k, x_cp_o, fr_S_X3_copyFrom]; exact hwh) | (simp (disch := first | omega | assumption) only [x_up_o, x_up_k, x_cp_o, fr_S_X3_copyFrom]; exact hwh)) (by first | exact hdb | (simp (disch := omega) only [x_up_o, x_up_k, x_cp_o, fr_S_X3_copyFrom]; exact hdb) | (simp (disch := first | omega | assumption) only [x_up_o, x_up_k, x_cp_o, fr_S_X3_copyFrom]; exact hdb)))
      · refine g_iconst dX6_days_17 ?_
        exact f_iret dX6_days_18 (by rw [V_X6_days, if_neg c_5, if_neg c_9, if_neg c_14]) (by rw [S_X6_days, if_neg c_5, if_neg c_9, if_neg c_14])

def RV_X6_softWithFrosts_14 (p : Nat) (m : Nat) (q : Int) (K : Nat) : Nat → Nat → xMi → Int
  | 0, e, σ => (V_X0_endsSoft σ 1 p)
  | k + 1, e, σ => (if x_wr (x_and (x_shr q (e : Int)) 1) = x_wr 1 then (RV_X6_softWithFrosts_14 p m q K k (e + 1) (S_X0_passDay σ 1 1 K) ) else (RV_X6_softWithFrosts_14 p m q K k (e + 1) (S_X0_passDay σ 1 0 K) ))
def RS_X6_softWithFrosts_14 (p : Nat) (m : Nat) (q : Int) (K : Nat) : Nat → Nat → xMi → xMi
  | 0, e, σ => σ
  | k + 1, e, σ => (if x_wr (x_and (x_shr q (e : Int)) 1) = x_wr 1 then (RS_X6_softWithFrosts_14 p m q K k (e + 1) (S_X0_passDay σ 1 1 K) ) else (RS_X6_softWithFrosts_14 p m q K k (e + 1) (S_X0_passDay σ 1 0 K) ))
theorem fr_RS_X6_softWithFrosts_14 (p : Nat) (m : Nat) (q : Int) (K : Nat) {t i k' : Nat} (h : ¬ (t ≤ 4 ∧ i = 1)) : ∀ (k e : Nat) (σ : xMi) , RS_X6_softWithFrosts_14 p m q K k e σ  t i k' = σ t i k' := by
  intro k
  induction k with
  | zero =>
    intro e σ 
    simp only [RS_X6_softWithFrosts_14]
    all_goals ((repeat' split) <;> simp (disch := first | omega | assumption) only [x_up_o, x_up_k, x_cp_o])
  | succ k ih =>
    intro e σ 
    simp only [RS_X6_softWithFrosts_14]
    all_goals (repeat' split)
    all_goals (first | rw [ih] | skip)
    all_goals first | done | simp (disch := first | omega | assumption) only [x_up_o, x_up_k, x_cp_o, fr_S_X0_passDay]
theorem zr_X6_softWithFrosts_14 (p : Nat) (m : Nat) (q : Int) (K : Nat) : ∀ (k e : Nat) (σ : xMi) , RV_X6_softWithFrosts_14 p m q K k e σ  = 0 ∨ RV_X6_softWithFrosts_14 p m q K k e σ  = 1 := by
  intro k
  induction k with
  | zero =>
    intro e σ 
    simp only [RV_X6_softWithFrosts_14]
    all_goals ((repeat' split) <;> first | exact Or.inl rfl | exact Or.inr rfl | exact Or.inr trivial | exact Or.inl trivial | exact z_X0_endsSoft _ _ _)
  | succ k ih =>
    intro e σ 
    simp only [RV_X6_softWithFrosts_14]
    all_goals ((repeat' split) <;> first | exact ih _ _ | exact Or.inl rfl | exact Or.inr rfl | exact Or.inr trivial | exact Or.inl trivial | exact z_X0_endsSoft _ _ _)
theorem lh_X6_softWithFrosts_14 (l : Launch) (n : Nat) (p : Nat) (m : Nat) (q : Int) (K : Nat) (hn : 131 ≤ n) (hp : p < 6) (hm : m ≤ 1000000) (hK : K ≤ 6) : ∀ (k e : Nat) (σ : xMi) , e + k = m → (σ 5 0 4 = (K : Int)) →  x_G l RX6 cX6_softWithFrosts 5 (some .boolean) 4 n (some (xI (RV_X6_softWithFrosts_14 p m q K k e σ ))) (RS_X6_softWithFrosts_14 p m q K k e σ ) 14 [(4, xI (e : Int)), (0, xR 23 0), (1, xI (p : Int)), (2, xI (m : Int)), (3, xI q)] [] σ := by
  intro k
  induction k with
  | zero =>
    intro e σ  hk hsz
    refine g_iload dX6_softWithFrosts_14 rfl ?_
    refine g_iload_n dX6_softWithFrosts_16 rfl ?_
    refine g_cmp_ge 48 dX6_softWithFrosts_17 rfl (fun c_17 => ?_) (fun c_17 => absurd (by rw [x_nat (by omega), x_nat (by omega)]; omega) c_17)
    refine g_aload_n dX6_softWithFrosts_48 rfl ?_
    refine g_getR (t2 := 0) (i2 := 1) dX6_softWithFrosts_49 fl_X6_38 (x_vC hn (Nat.le_of_ble_eq_true rfl) (Nat.le_of_ble_eq_true rfl)) rfl rfl rfl ?_
    refine g_iload_n dX6_softWithFrosts_52 rfl ?_
    refine f_V dX6_softWithFrosts_53 cs_X6_238 mb_X0_endsSoft (c_X0_endsSoft l n _ 1 p hn (Nat.le_of_ble_eq_true rfl) hp) rfl (x_vC hn (Nat.le_of_ble_eq_true rfl) (Nat.le_of_ble_eq_true rfl)) rfl rfl rfl (Nat.le_of_ble_eq_true rfl) (by decide) (Nat.le_of_ble_eq_true rfl) (Nat.le_refl _) (Nat.le_refl _) ?_
    exact f_zret dX6_softWithFrosts_56 (z_X0_endsSoft _ _ _) rfl rfl
  | succ k ih =>
    intro e σ  hk hsz
    refine g_iload dX6_softWithFrosts_14 rfl ?_
    refine g_iload_n dX6_softWithFrosts_16 rfl ?_
    refine g_cmp_ge 48 dX6_softWithFrosts_17 rfl (fun c_17 => absurd c_17 (by rw [x_nat (by omega), x_nat (by omega)]; omega)) (fun c_17 => ?_)
    refine g_aload_n dX6_softWithFrosts_20 rfl ?_
    refine g_getR (t2 := 0) (i2 := 1) dX6_softWithFrosts_21 fl_X6_38 (x_vC hn (Nat.le_of_ble_eq_true rfl) (Nat.le_of_ble_eq_true rfl)) rfl rfl rfl ?_
    refine g_iload_n dX6_softWithFrosts_24 rfl ?_
    refine g_iload dX6_softWithFrosts_25 rfl ?_
    refine g_ishr dX6_softWithFrosts_27 ?_
    refine g_iconst dX6_softWithFrosts_28 ?_
    refine g_iand dX6_softWithFrosts_29 ?_
    refine g_iconst dX6_softWithFrosts_30 ?_
    refine g_cmp_ne 38 dX6_softWithFrosts_31 rfl (fun c_31 => ?_) (fun c_31 => ?_)
    · refine g_iconst dX6_softWithFrosts_38 ?_
      refine f_Vv dX6_softWithFrosts_39 cs_X6_168 mb_X0_passDay (c_X0_passDay l n _ 1 0 K hn (Nat.le_of_ble_eq_true rfl) hK hsz) rfl (x_vC hn (Nat.le_of_ble_eq_true rfl) (Nat.le_of_ble_eq_true rfl)) rfl rfl rfl (Nat.le_of_ble_eq_true rfl) (by decide) (Nat.le_of_ble_eq_true rfl) (Nat.le_refl _) (Nat.le_refl _) ?_
      refine g_iinc (lv' := [(4, xI (((e + 1) : Nat) : Int)), _, _, _, _]) dX6_softWithFrosts_42 (Nat.le_of_ble_eq_true rfl) rfl rfl ?_
      refine g_goto 14 dX6_softWithFrosts_45 rfl ?_
      refine g_sub (lv2 := [(4, xI (((e + 1) : Nat) : Int)), _, _, _, _]) [0, 1, 2, 3, 4] rfl ?_
      exact f_cv (by rw [RV_X6_softWithFrosts_14, if_neg c_31]) (by rw [RS_X6_softWithFrosts_14, if_neg c_31]) (ih (e + 1) _  (by omega) (by first | exact hsz | (simp (disch := omega) only [x_up_o, x_up_k, x_cp_o, fr_S_X0_passDay]; exact hsz) | (simp (disch := first | omega | assumption) only [x_up_o, x_up_k, x_cp_o, fr_S_X0_passDay]; exact hsz)))
    · refine g_iconst dX6_softWithFrosts_34 ?_
      refine g_goto 39 dX6_softWithFrosts_35 rfl ?_
      refine f_Vv dX6_softWithFrosts_39 cs_X6_168 mb_X0_passDay (c_X0_passDay l n _ 1 1 K hn (Nat.le_of_ble_eq_true rfl) hK hsz) rfl (x_vC hn (Nat.le_of_ble_eq_true rfl) (Nat.le_of_ble_eq_true rfl)) rfl rfl rfl (Nat.le_of_ble_eq_true rfl) (by decide) (Nat.le_of_ble_eq_true rfl) (Nat.le_refl _) (Nat.le_refl _) ?_
      refine g_iinc (lv' := [(4, xI (((e + 1) : Nat) : Int)), _, _, _, _]) dX6_softWithFrosts_42 (Nat.le_of_ble_eq_true rfl) rfl rfl ?_
      refine g_goto 14 dX6_softWithFrosts_45 rfl ?_
      refine g_sub (lv2 := [(4, xI (((e + 1) : Nat) : Int)), _, _, _, _]) [0, 1, 2, 3, 4] rfl ?_
      exact f_cv (by rw [RV_X6_softWithFrosts_14, if_pos c_31]) (by rw [RS_X6_softWithFrosts_14, if_pos c_31]) (ih (e + 1) _  (by omega) (by first | exact hsz | (simp (disch := omega) only [x_up_o, x_up_k, x_cp_o, fr_S_X0_passDay]; exact hsz) | (simp (disch := first | omega | assumption) only [x_up_o, x_up_k, x_cp_o, fr_S_X0_passDay]; exact hsz)))
def V_X6_softWithFrosts (σ : xMi) (p : Nat) (m : Nat) (q : Int) (K : Nat) : Int := (RV_X6_softWithFrosts_14 p m q K m 0 (S_X0_copyFrom σ 1 0) )
theorem z_X6_softWithFrosts (σ : xMi) (p : Nat) (m : Nat) (q : Int) (K : Nat) : V_X6_softWithFrosts σ p m q K = 0 ∨ V_X6_softWithFrosts σ p m q K = 1 := by
  unfold V_X6_softWithFrosts
  (repeat' split) <;> first | exact Or.inl rfl | exact Or.inr rfl | exact zr_X6_softWithFrosts_14 _ _ _ _ _ _ _
def S_X6_softWithFrosts (σ : xMi) (p : Nat) (m : Nat) (q : Int) (K : Nat) : xMi := (RS_X6_softWithFrosts_14 p m q K m 0 (S_X0_copyFrom σ 1 0) )
theorem fr_S_X6_softWithFrosts (σ : xMi) (p : Nat) (m : Nat) (q : Int) (K : Nat) {t i k : Nat} (h : ¬ (t ≤ 4 ∧ i = 1)) : S_X6_softWithFrosts σ p m q K t i k = σ t i k := by
  unfold S_X6_softWithFrosts
  all_goals ((repeat' split) <;> first | rfl | simp (disch := first | omega | assumption) only [x_up_o, x_up_k, x_cp_o, fr_RS_X6_softWithFrosts_14, fr_S_X0_copyFrom])
theorem c_X6_softWithFrosts (l : Launch) (n : Nat) (σ : xMi) (p : Nat) (m : Nat) (q : Int) (K : Nat) (hn : 131 ≤ n) (hp : p < 6) (hm : m ≤ 1000000) (hK : K ≤ 6) (hsz : σ 5 0 4 = (K : Int)) : x_F l yX6_softWithFrosts RX6 cX6_softWithFrosts 5 (some .boolean) 4 n σ [xR 23 0, xI (p : Int), xI (m : Int), xI q] (some (xI (V_X6_softWithFrosts σ p m q K))) (S_X6_softWithFrosts σ p m q K) := by
  refine f_of (by decide) rfl (Nat.le_of_ble_eq_true rfl) rfl ?_
  refine g_aload_n dX6_softWithFrosts_0 rfl ?_
  refine g_getR (t2 := 0) (i2 := 1) dX6_softWithFrosts_1 fl_X6_38 (x_vC hn (Nat.le_of_ble_eq_true rfl) (Nat.le_of_ble_eq_true rfl)) rfl rfl rfl ?_
  refine g_aload_n dX6_softWithFrosts_4 rfl ?_
  refine g_getR (t2 := 0) (i2 := 0) dX6_softWithFrosts_5 fl_X6_34 (x_vC hn (Nat.le_of_ble_eq_true rfl) (Nat.le_of_ble_eq_true rfl)) rfl rfl rfl ?_
  refine f_Vv dX6_softWithFrosts_8 cs_X6_156 mb_X0_copyFrom (c_X0_copyFrom l n _ 1 0 hn (Nat.le_of_ble_eq_true rfl) (Nat.le_of_ble_eq_true rfl)) rfl (x_vC hn (Nat.le_of_ble_eq_true rfl) (Nat.le_of_ble_eq_true rfl)) rfl rfl rfl (Nat.le_of_ble_eq_true rfl) (by decide) (Nat.le_of_ble_eq_true rfl) (Nat.le_refl _) (Nat.le_refl _) ?_
  refine g_iconst dX6_softWithFrosts_11 ?_
  refine g_istore (lv' := [_, _, _, _, _]) dX6_softWithFrosts_12 (Nat.le_of_ble_eq_true rfl) rfl ?_
  refine g_sub (lv2 := [(4, xI ((0 : Nat) : Int)), _, _, _, _]) [0, 1, 2, 3, 4] rfl ?_
  exact f_cv rfl rfl (lh_X6_softWithFrosts_14 l n p m q K hn hp hm hK m 0 _  (by omega) (by first | exact hsz | (simp (disch := omega) only [x_up_o, x_up_k, x_cp_o, fr_S_X0_copyFrom]; exact hsz) | (simp (disch := first | omega | assumption) only [x_up_o, x_up_k, x_cp_o, fr_S_X0_copyFrom]; exact hsz)))

def RV_X6_weightOfFrosts_5 (m : Nat) (q : Int) (x1 : Int) : Nat → Nat → xMi → Int → Int
  | 0, e, σ, a => a
  | k + 1, e, σ, a => (if x_wr (x_and (x_shr q (e : Int)) 1) = x_wr 1 then (RV_X6_weightOfFrosts_5 m q x1 k (e + 1) σ (a * x1)) else (RV_X6_weightOfFrosts_5 m q x1 k (e + 1) σ (a * (10 - x1))))
theorem lh_X6_weightOfFrosts_5 (l : Launch) (n : Nat) (m : Nat) (q : Int) (x1 : Int) (hn : 131 ≤ n) (hm : m ≤ 1000000) : ∀ (k e : Nat) (σ : xMi) (a : Int), e + k = m →  x_G l RX6 cX6_weightOfFrosts 5 (some .int) 0 n (some (xI (RV_X6_weightOfFrosts_5 m q x1 k e σ a))) σ 5 [(4, xI (e : Int)), (3, xI a), (0, xI (m : Int)), (1, xI q), (2, xI x1)] [] σ := by
  intro k
  induction k with
  | zero =>
    intro e σ a hk 
    refine g_iload dX6_weightOfFrosts_5 rfl ?_
    refine g_iload_n dX6_weightOfFrosts_7 rfl ?_
    refine g_cmp_ge 38 dX6_weightOfFrosts_8 rfl (fun c_8 => ?_) (fun c_8 => absurd (by rw [x_nat (by omega), x_nat (by omega)]; omega) c_8)
    refine g_iload_n dX6_weightOfFrosts_38 rfl ?_
    exact f_iret dX6_weightOfFrosts_39 rfl rfl
  | succ k ih =>
    intro e σ a hk 
    refine g_iload dX6_weightOfFrosts_5 rfl ?_
    refine g_iload_n dX6_weightOfFrosts_7 rfl ?_
    refine g_cmp_ge 38 dX6_weightOfFrosts_8 rfl (fun c_8 => absurd c_8 (by rw [x_nat (by omega), x_nat (by omega)]; omega)) (fun c_8 => ?_)
    refine g_iload_n dX6_weightOfFrosts_11 rfl ?_
    refine g_iload_n dX6_weightOfFrosts_12 rfl ?_
    refine g_iload dX6_weightOfFrosts_13 rfl ?_
    refine g_ishr dX6_weightOfFrosts_15 ?_
    refine g_iconst dX6_weightOfFrosts_16 ?_
    refine g_iand dX6_weightOfFrosts_17 ?_
    refine g_iconst dX6_weightOfFrosts_18 ?_
    refine g_cmp_ne 26 dX6_weightOfFrosts_19 rfl (fun c_19 => ?_) (fun c_19 => ?_)
    · refine g_bipush dX6_weightOfFrosts_26 (by decide) ?_
      refine g_iload_n dX6_weightOfFrosts_28 rfl ?_
      refine g_isub dX6_weightOfFrosts_29 ?_
      refine g_imul dX6_weightOfFrosts_30 ?_
      refine g_istore_n (lv' := [_, _, _, _, _]) dX6_weightOfFrosts_31 (Nat.le_of_ble_eq_true rfl) rfl ?_
      refine g_iinc (lv' := [(4, xI (((e + 1) : Nat) : Int)), _, _, _, _]) dX6_weightOfFrosts_32 (Nat.le_of_ble_eq_true rfl) rfl rfl ?_
      refine g_goto 5 dX6_weightOfFrosts_35 rfl ?_
      refine g_sub (lv2 := [(4, xI (((e + 1) : Nat) : Int)), _, _, _, _]) [0, 1, 2, 3, 4] rfl ?_
      exact f_cv (by rw [RV_X6_weightOfFrosts_5, if_neg c_19]) rfl (ih (e + 1) _ _ (by omega) )
    · refine g_iload_n dX6_weightOfFrosts_22 rfl ?_
      refine g_goto 30 dX6_weightOfFrosts_23 rfl ?_
      refine g_imul dX6_weightOfFrosts_30 ?_
      refine g_istore_n (lv' := [_, _, _, _, _]) dX6_weightOfFrosts_31 (Nat.le_of_ble_eq_true rfl) rfl ?_
      refine g_iinc (lv' := [(4, xI (((e + 1) : Nat) : Int)), _, _, _, _]) dX6_weightOfFrosts_32 (Nat.le_of_ble_eq_true rfl) rfl rfl ?_
      refine g_goto 5 dX6_weightOfFrosts_35 rfl ?_
      refine g_sub (lv2 := [(4, xI (((e + 1) : Nat) : Int)), _, _, _, _]) [0, 1, 2, 3, 4] rfl ?_
      exact f_cv (by rw [RV_X6_weightOfFrosts_5, if_pos c_19]) rfl (ih (e + 1) _ _ (by omega) )
def V_X6_weightOfFrosts (σ : xMi) (m : Nat) (q : Int) (x1 : Int) : Int := (RV_X6_weightOfFrosts_5 m q x1 m 0 σ 1)
theorem c_X6_weightOfFrosts (l : Launch) (n : Nat) (σ : xMi) (m : Nat) (q : Int) (x1 : Int) (hn : 131 ≤ n) (hm : m ≤ 1000000)  : x_F l yX6_weightOfFrosts RX6 cX6_weightOfFrosts 5 (some .int) 0 n σ [xI (m : Int), xI q, xI x1] (some (xI (V_X6_weightOfFrosts σ m q x1))) σ := by
  refine f_of (by decide) rfl (Nat.le_of_ble_eq_true rfl) rfl ?_
  refine g_iconst dX6_weightOfFrosts_0 ?_
  refine g_istore_n (lv' := [_, _, _, _]) dX6_weightOfFrosts_1 (Nat.le_of_ble_eq_true rfl) rfl ?_
  refine g_iconst dX6_weightOfFrosts_2 ?_
  refine g_istore (lv' := [_, _, _, _, _]) dX6_weightOfFrosts_3 (Nat.le_of_ble_eq_true rfl) rfl ?_
  refine g_sub (lv2 := [(4, xI ((0 : Nat) : Int)), _, _, _, _]) [0, 1, 2, 3, 4] rfl ?_
  exact f_cv rfl rfl (lh_X6_weightOfFrosts_5 l n m q x1 hn hm m 0 _ _ (by omega) )

def RV_X6_greatestDivisor_7 (a1 : Int) (b1 : Int) : Nat → Nat → xMi → Int → Int → Int
  | 0, e, σ, a, b2 => a
  | k + 1, e, σ, a, b2 => (if x_wr b2 = 0 then a else (RV_X6_greatestDivisor_7 a1 b1 k (e + 1) σ b2 (x_rem a b2)))
theorem lh_X6_greatestDivisor_7 (l : Launch) (n : Nat) (a1 : Int) (b1 : Int) (hn : 131 ≤ n)  : ∀ (k e : Nat) (σ : xMi) (a : Int) (b2 : Int), e + k = 64 →  x_G l RX6 cX6_greatestDivisor 6 (some .int) 0 n (some (xI (RV_X6_greatestDivisor_7 a1 b1 k e σ a b2))) σ 7 [(4, xI (e : Int)), (2, xI a), (3, xI b2), (0, xI a1), (1, xI b1)] [] σ := by
  intro k
  induction k with
  | zero =>
    intro e σ a b2 hk 
    refine g_iload dX6_greatestDivisor_7 rfl ?_
    refine g_bipush dX6_greatestDivisor_9 (by decide) ?_
    refine g_cmp_ge 34 dX6_greatestDivisor_11 rfl (fun c_11 => ?_) (fun c_11 => absurd (by rw [show x_wr 64 = 64 from by decide, x_nat (by omega)]; omega) c_11)
    refine g_iload_n dX6_greatestDivisor_34 rfl ?_
    exact f_iret dX6_greatestDivisor_35 rfl rfl
  | succ k ih =>
    intro e σ a b2 hk 
    refine g_iload dX6_greatestDivisor_7 rfl ?_
    refine g_bipush dX6_greatestDivisor_9 (by decide) ?_
    refine g_cmp_ge 34 dX6_greatestDivisor_11 rfl (fun c_11 => absurd c_11 (by rw [show x_wr 64 = 64 from by decide, x_nat (by omega)]; omega)) (fun c_11 => ?_)
    refine g_iload_n dX6_greatestDivisor_14 rfl ?_
    refine g_if_eq 34 dX6_greatestDivisor_15 rfl (fun c_15 => ?_) (fun c_15 => ?_)
    · refine g_iload_n dX6_greatestDivisor_34 rfl ?_
      exact f_iret dX6_greatestDivisor_35 (by rw [RV_X6_greatestDivisor_7, if_pos c_15]) rfl
    · refine g_iload_n dX6_greatestDivisor_18 rfl ?_
      refine g_iload_n dX6_greatestDivisor_19 rfl ?_
      refine g_irem dX6_greatestDivisor_20 c_15 ?_
      refine g_istore (lv' := [_, _, _, _, _, _]) dX6_greatestDivisor_21 (Nat.le_of_ble_eq_true rfl) rfl ?_
      refine g_iload_n dX6_greatestDivisor_23 rfl ?_
      refine g_istore_n (lv' := [_, _, _, _, _, _]) dX6_greatestDivisor_24 (Nat.le_of_ble_eq_true rfl) rfl ?_
      refine g_iload dX6_greatestDivisor_25 rfl ?_
      refine g_istore_n (lv' := [_, _, _, _, _, _]) dX6_greatestDivisor_27 (Nat.le_of_ble_eq_true rfl) rfl ?_
      refine g_iinc (lv' := [(4, xI (((e + 1) : Nat) : Int)), _, _, _, _, _]) dX6_greatestDivisor_28 (Nat.le_of_ble_eq_true rfl) rfl rfl ?_
      refine g_goto 7 dX6_greatestDivisor_31 rfl ?_
      refine g_sub (lv2 := [(4, xI (((e + 1) : Nat) : Int)), _, _, _, _]) [0, 2, 1, 4, 5] rfl ?_
      exact f_cv (by rw [RV_X6_greatestDivisor_7, if_neg c_15]) rfl (ih (e + 1) _ _ _ (by omega) )
def V_X6_greatestDivisor (σ : xMi) (a1 : Int) (b1 : Int) : Int := (RV_X6_greatestDivisor_7 a1 b1 64 0 σ a1 b1)
theorem c_X6_greatestDivisor (l : Launch) (n : Nat) (σ : xMi) (a1 : Int) (b1 : Int) (hn : 131 ≤ n)   : x_F l yX6_greatestDivisor RX6 cX6_greatestDivisor 6 (some .int) 0 n σ [xI a1, xI b1] (some (xI (V_X6_greatestDivisor σ a1 b1))) σ := by
  refine f_of (by decide) rfl (Nat.le_of_ble_eq_true rfl) rfl ?_
  refine g_iload_n dX6_greatestDivisor_0 rfl ?_
  refine g_istore_n (lv' := [_, _, _]) dX6_greatestDivisor_1 (Nat.le_of_ble_eq_true rfl) rfl ?_
  refine g_iload_n dX6_greatestDivisor_2 rfl ?_
  refine g_istore_n (lv' := [_, _, _, _]) dX6_greatestDivisor_3 (Nat.le_of_ble_eq_true rfl) rfl ?_
  refine g_iconst dX6_greatestDivisor_4 ?_
  refine g_istore (lv' := [_, _, _, _, _]) dX6_greatestDivisor_5 (Nat.le_of_ble_eq_true rfl) rfl ?_
  refine g_sub (lv2 := [(4, xI ((0 : Nat) : Int)), _, _, _, _]) [0, 2, 1, 3, 4] rfl ?_
  exact f_cv rfl rfl (lh_X6_greatestDivisor_7 l n a1 b1 hn 64 0 _ _ _ (by omega) )

def V_X6_draw (σ : xMi) (z1 : Int) (d1 : Int) : Int := (x_divJ (x_remJ ((((7919 * (x_wr z1)) + (6151 * (x_wr d1))) + 1) * (((7919 * (x_wr z1)) + (6151 * (x_wr d1))) + 1)) 65521) 2)
theorem c_X6_draw (l : Launch) (n : Nat) (σ : xMi) (z1 : Int) (d1 : Int) (hn : 131 ≤ n)   : x_F l yX6_draw RX6 cX6_draw 4 (some .int) 0 n σ [xI z1, xI d1] (some (xI (V_X6_draw σ z1 d1))) σ := by
  refine f_of (by decide) rfl (Nat.le_of_ble_eq_true rfl) rfl ?_
  refine g_ldc2 (a := 7919) dX6_draw_0 ct_X6_241 (by decide) ?_
  refine g_iload_n dX6_draw_3 rfl ?_
  refine g_i2l dX6_draw_4 ?_
  refine g_lmul dX6_draw_5 ?_
  refine g_ldc2 (a := 6151) dX6_draw_6 ct_X6_243 (by decide) ?_
  refine g_iload_n dX6_draw_9 rfl ?_
  refine g_i2l dX6_draw_10 ?_
  refine g_lmul dX6_draw_11 ?_
  refine g_ladd dX6_draw_12 ?_
  refine g_lconst (a := 1) dX6_draw_13 (by decide) ?_
  refine g_ladd dX6_draw_14 ?_
  refine g_lstore_n (lv' := [_, _, _]) dX6_draw_15 (Nat.le_of_ble_eq_true rfl) rfl ?_
  refine g_lload_n dX6_draw_16 rfl ?_
  refine g_lload_n dX6_draw_17 rfl ?_
  refine g_lmul dX6_draw_18 ?_
  refine g_ldc2 (a := 65521) dX6_draw_19 ct_X6_245 (by decide) ?_
  refine g_lrem dX6_draw_22 (by decide) ?_
  refine g_ldc2 (a := 2) dX6_draw_23 ct_X6_247 (by decide) ?_
  refine g_ldiv dX6_draw_26 (by decide) ?_
  refine g_l2i dX6_draw_27 ?_
  exact f_iret dX6_draw_28 rfl rfl

theorem x_ofkJ (k : Nat) : Int64.ofInt (k : Int) = lN k := rfl
theorem x_remJN {a b : Nat} (ha : a < 2 ^ 63) (h0 : 0 < b) (hb : b < 2 ^ 63) : x_remJ (a : Int) (b : Int) = ((a % b : Nat) : Int) := by
  unfold x_remJ
  rw [x_ofkJ, x_ofkJ, pk_lRem ha h0 hb, pk_lT (Nat.lt_of_lt_of_le (Nat.mod_lt _ h0) (Nat.le_of_lt hb))]
theorem x_divJN {a b : Nat} (ha : a < 2 ^ 63) (h0 : 0 < b) (hb : b < 2 ^ 63) : x_divJ (a : Int) (b : Int) = ((a / b : Nat) : Int) := by
  unfold x_divJ
  rw [x_ofkJ, x_ofkJ, pk_lDiv ha h0 hb, pk_lT (Nat.lt_of_le_of_lt (Nat.div_le_self _ _) ha)]
def x_dr (z d : Nat) : Nat := (7919 * z + 6151 * d + 1) * (7919 * z + 6151 * d + 1) % 65521 / 2
theorem x_dr_lt (z d : Nat) : x_dr z d < 32761 := by
  unfold x_dr
  have := Nat.mod_lt ((7919 * z + 6151 * d + 1) * (7919 * z + 6151 * d + 1)) (show 0 < 65521 by decide)
  omega
theorem l_draw {σ : xMi} {z d : Nat} (hz : z ≤ 9999) (hd : d ≤ 60) : V_X6_draw σ (z : Int) (d : Int) = ((x_dr z d : Nat) : Int) := by
  have hb : 7919 * z + 6151 * d + 1 ≤ 80000000 := by omega
  have e1 : (7919 * x_wr (z : Int) + 6151 * x_wr (d : Int)) + 1 = ((7919 * z + 6151 * d + 1 : Nat) : Int) := by
    rw [x_nat (by omega), x_nat (by omega)]; omega
  have h2 : (7919 * z + 6151 * d + 1) * (7919 * z + 6151 * d + 1) < 2 ^ 63 := Nat.lt_of_le_of_lt (Nat.mul_le_mul hb hb) (by decide)
  unfold V_X6_draw x_dr
  rw [e1, ← Int.natCast_mul, show (65521 : Int) = ((65521 : Nat) : Int) from rfl, x_remJN h2 (by decide) (by decide), show (2 : Int) = ((2 : Nat) : Int) from rfl, x_divJN _ (by decide) (by decide)]
  exact Nat.lt_of_lt_of_le (Nat.mod_lt _ (by decide)) (by decide)
theorem x_shl1 : ∀ m : Nat, m < 8 → x_wr (x_shl 1 (m : Int)) = ((2 ^ m : Nat) : Int) := by decide +kernel
def RV_X6_likely_72 (p1 : Int) (n1 : Int) (x1 : Int) (t1 : Int) (K : Nat) : Nat → Nat → xMi → Int → Int → Int
  | 0, q, σ, a, b2 => (if 0 < x_wr (V_X6_greatestDivisor σ a b2) then (if x_wr t1 = 0 then (x_div a (V_X6_greatestDivisor σ a b2)) else (x_div b2 (V_X6_greatestDivisor σ a b2))) else (-1))
  | k + 1, q, σ, a, b2 => (if x_wr (V_X6_softWithFrosts σ (p1.toNat) (n1.toNat) (q : Int) K) = 0 then (RV_X6_likely_72 p1 n1 x1 t1 K k (q + 1) (S_X6_softWithFrosts σ (p1.toNat) (n1.toNat) (q : Int) K) a b2) else (RV_X6_likely_72 p1 n1 x1 t1 K k (q + 1) (S_X6_softWithFrosts σ (p1.toNat) (n1.toNat) (q : Int) K) (a + (V_X6_weightOfFrosts (S_X6_softWithFrosts σ (p1.toNat) (n1.toNat) (q : Int) K) (n1.toNat) (q : Int) x1)) b2))
def RS_X6_likely_72 (p1 : Int) (n1 : Int) (x1 : Int) (t1 : Int) (K : Nat) : Nat → Nat → xMi → Int → Int → xMi
  | 0, q, σ, a, b2 => (if 0 < x_wr (V_X6_greatestDivisor σ a b2) then (if x_wr t1 = 0 then σ else σ) else σ)
  | k + 1, q, σ, a, b2 => (if x_wr (V_X6_softWithFrosts σ (p1.toNat) (n1.toNat) (q : Int) K) = 0 then (RS_X6_likely_72 p1 n1 x1 t1 K k (q + 1) (S_X6_softWithFrosts σ (p1.toNat) (n1.toNat) (q : Int) K) a b2) else (RS_X6_likely_72 p1 n1 x1 t1 K k (q + 1) (S_X6_softWithFrosts σ (p1.toNat) (n1.toNat) (q : Int) K) (a + (V_X6_weightOfFrosts (S_X6_softWithFrosts σ (p1.toNat) (n1.toNat) (q : Int) K) (n1.toNat) (q : Int) x1)) b2))
theorem lh_X6_likely_72 (l : Launch) (n : Nat) (p1 : Int) (n1 : Int) (x1 : Int) (t1 : Int) (K : Nat) (hn : 131 ≤ n) (hK : K ≤ 6) (h1w : x_wr p1 = p1) (hnw : x_wr n1 = n1) : ∀ (k q : Nat) (σ : xMi) (a : Int) (b2 : Int), q + k = 2 ^ n1.toNat ∧ p1.toNat < 6 ∧ n1.toNat ≤ 7 → (σ 5 0 4 = (K : Int)) →  x_G l RX6 cX6_likely 8 (some .int) 5 n (some (xI (RV_X6_likely_72 p1 n1 x1 t1 K k q σ a b2))) (RS_X6_likely_72 p1 n1 x1 t1 K k q σ a b2) 72 [(7, xI (q : Int)), (5, xI a), (6, xI b2), (0, xR 23 0), (1, xI ((p1.toNat : Nat) : Int)), (2, xI ((n1.toNat : Nat) : Int)), (3, xI x1), (4, xI t1)] [] σ := by
  intro k
  induction k with
  | zero =>
    intro q σ a b2 hk hsz
    refine g_iload dX6_likely_72 rfl ?_
    refine g_iconst dX6_likely_74 ?_
    refine g_iload_n dX6_likely_75 rfl ?_
    refine g_ishl dX6_likely_76 ?_
    refine g_cmp_ge 109 dX6_likely_77 rfl (fun c_77 => ?_) (fun c_77 => absurd (by have h2 : 2 ^ n1.toNat ≤ 2 ^ 7 := Nat.pow_le_pow_right (by decide) (by omega); rw [x_shl1 _ (by omega), x_nat (by omega)]; omega) c_77)
    refine g_iload dX6_likely_109 rfl ?_
    refine g_iload dX6_likely_111 rfl ?_
    refine f_S dX6_likely_113 cs_X6_214 mb_X6_greatestDivisor (c_X6_greatestDivisor l n _ a b2 hn) rfl (Nat.lt_of_lt_of_le (by decide) hn) rfl (Nat.le_of_ble_eq_true rfl) (by decide) (Nat.le_of_ble_eq_true rfl) (Nat.le_refl _) (Nat.le_refl _) ?_
    refine g_istore (lv' := [_, _, _, _, _, _, _, _]) dX6_likely_116 (Nat.le_of_ble_eq_true rfl) rfl ?_
    refine g_iload dX6_likely_118 rfl ?_
    refine g_if_gt 125 dX6_likely_120 rfl (fun c_120 => ?_) (fun c_120 => ?_)
    · refine g_iload dX6_likely_125 rfl ?_
      refine g_if_ne 138 dX6_likely_127 rfl (fun c_127 => ?_) (fun c_127 => ?_)
      · refine g_iload dX6_likely_138 rfl ?_
        refine g_iload dX6_likely_140 rfl ?_
        refine g_idiv dX6_likely_142 (by omega) ?_
        exact f_iret dX6_likely_143 (by rw [RV_X6_likely_72, if_pos c_120, if_neg c_127]) (by rw [RS_X6_likely_72, if_pos c_120, if_neg c_127])
      · refine g_iload dX6_likely_130 rfl ?_
        refine g_iload dX6_likely_132 rfl ?_
        refine g_idiv dX6_likely_134 (by omega) ?_
        refine g_goto 143 dX6_likely_135 rfl ?_
        exact f_iret dX6_likely_143 (by rw [RV_X6_likely_72, if_pos c_120, if_pos c_127]) (by rw [RS_X6_likely_72, if_pos c_120, if_pos c_127])
    · refine g_iconst dX6_likely_123 ?_
      exact f_iret dX6_likely_124 (by rw [RV_X6_likely_72, if_neg c_120]) (by rw [RS_X6_likely_72, if_neg c_120])
  | succ k ih =>
    intro q σ a b2 hk hsz
    have hP6 : p1.toNat < 6 := hk.2.1
    refine g_iload dX6_likely_72 rfl ?_
    refine g_iconst dX6_likely_74 ?_
    refine g_iload_n dX6_likely_75 rfl ?_
    refine g_ishl dX6_likely_76 ?_
    refine g_cmp_ge 109 dX6_likely_77 rfl (fun c_77 => absurd c_77 (by have h2 : 2 ^ n1.toNat ≤ 2 ^ 7 := Nat.pow_le_pow_right (by decide) (by omega); rw [x_shl1 _ (by omega), x_nat (by omega)]; omega)) (fun c_77 => ?_)
    refine g_aload_n dX6_likely_80 rfl ?_
    refine g_iload_n dX6_likely_81 rfl ?_
    refine g_iload_n dX6_likely_82 rfl ?_
    refine g_iload dX6_likely_83 rfl ?_
    refine f_V dX6_likely_85 cs_X6_206 mb_X6_softWithFrosts (c_X6_softWithFrosts l n _ (p1.toNat) (n1.toNat) (q : Int) K hn hP6 (by omega) hK hsz) rfl (x_vC hn (Nat.le_of_ble_eq_true rfl) (Nat.le_of_ble_eq_true rfl)) rfl rfl rfl (Nat.le_of_ble_eq_true rfl) (by decide) (Nat.le_of_ble_eq_true rfl) (Nat.le_refl _) (Nat.le_refl _) ?_
    refine g_if_eq 103 dX6_likely_88 rfl (fun c_88 => ?_) (fun c_88 => ?_)
    · refine g_iinc (lv' := [(7, xI (((q + 1) : Nat) : Int)), _, _, _, _, _, _, _]) dX6_likely_103 (Nat.le_of_ble_eq_true rfl) rfl rfl ?_
      refine g_goto 72 dX6_likely_106 rfl ?_
      refine g_sub (lv2 := [(7, xI (((q + 1) : Nat) : Int)), _, _, _, _, _, _, _]) [0, 1, 2, 3, 4, 5, 6, 7] rfl ?_
      exact f_cv (by rw [RV_X6_likely_72, if_pos c_88]) (by rw [RS_X6_likely_72, if_pos c_88]) (ih (q + 1) _ _ _ (by omega) (by first | exact hsz | (simp (disch := omega) only [x_up_o, x_up_k, x_cp_o, fr_S_X6_softWithFrosts]; exact hsz) | (simp (disch := first | omega | assumption) only [x_up_o, x_up_k, x_cp_o, fr_S_X6_softWithFrosts]; exact hsz)))
    · refine g_iload dX6_likely_91 rfl ?_
      refine g_iload_n dX6_likely_93 rfl ?_
      refine g_iload dX6_likely_94 rfl ?_
      refine g_iload_n dX6_likely_96 rfl ?_
      refine f_S dX6_likely_97 cs_X6_210 mb_X6_weightOfFrosts (c_X6_weightOfFrosts l n _ (n1.toNat) (q : Int) x1 hn (by omega)) rfl (Nat.lt_of_lt_of_le (by decide) hn) rfl (Nat.le_of_ble_eq_true rfl) (by decide) (Nat.le_of_ble_eq_true rfl) (Nat.le_refl _) (Nat.le_refl _) ?_
      refine g_iadd dX6_likely_100 ?_
      refine g_istore (lv' := [_, _, _, _, _, _, _, _]) dX6_likely_101 (Nat.le_of_ble_eq_true rfl) rfl ?_
      refine g_iinc (lv' := [(7, xI (((q + 1) : Nat) : Int)), _, _, _, _, _, _, _]) dX6_likely_103 (Nat.le_of_ble_eq_true rfl) rfl rfl ?_
      refine g_goto 72 dX6_likely_106 rfl ?_
      refine g_sub (lv2 := [(7, xI (((q + 1) : Nat) : Int)), _, _, _, _, _, _, _]) [0, 1, 2, 3, 4, 5, 6, 7] rfl ?_
      exact f_cv (by rw [RV_X6_likely_72, if_neg c_88]) (by rw [RS_X6_likely_72, if_neg c_88]) (ih (q + 1) _ _ _ (by omega) (by first | exact hsz | (simp (disch := omega) only [x_up_o, x_up_k, x_cp_o, fr_S_X6_softWithFrosts]; exact hsz) | (simp (disch := first | omega | assumption) only [x_up_o, x_up_k, x_cp_o, fr_S_X6_softWithFrosts]; exact hsz)))
def RV_X6_likely_50 (p1 : Int) (n1 : Int) (x1 : Int) (t1 : Int) (K : Nat) : Nat → Nat → xMi → Int → Int → Int
  | 0, e, σ, a, b2 => (RV_X6_likely_72 p1 n1 x1 t1 K (2 ^ n1.toNat) 0 σ a b2)
  | k + 1, e, σ, a, b2 => (RV_X6_likely_50 p1 n1 x1 t1 K k (e + 1) σ a (b2 * 10))
def RS_X6_likely_50 (p1 : Int) (n1 : Int) (x1 : Int) (t1 : Int) (K : Nat) : Nat → Nat → xMi → Int → Int → xMi
  | 0, e, σ, a, b2 => (RS_X6_likely_72 p1 n1 x1 t1 K (2 ^ n1.toNat) 0 σ a b2)
  | k + 1, e, σ, a, b2 => (RS_X6_likely_50 p1 n1 x1 t1 K k (e + 1) σ a (b2 * 10))
theorem lh_X6_likely_50 (l : Launch) (n : Nat) (p1 : Int) (n1 : Int) (x1 : Int) (t1 : Int) (K : Nat) (hn : 131 ≤ n) (hK : K ≤ 6) (h1w : x_wr p1 = p1) (hnw : x_wr n1 = n1) : ∀ (k e : Nat) (σ : xMi) (a : Int) (b2 : Int), e + k = n1.toNat ∧ p1.toNat < 6 ∧ n1.toNat ≤ 7 → (σ 5 0 4 = (K : Int)) →  x_G l RX6 cX6_likely 8 (some .int) 5 n (some (xI (RV_X6_likely_50 p1 n1 x1 t1 K k e σ a b2))) (RS_X6_likely_50 p1 n1 x1 t1 K k e σ a b2) 50 [(7, xI (e : Int)), (5, xI a), (6, xI b2), (0, xR 23 0), (1, xI ((p1.toNat : Nat) : Int)), (2, xI ((n1.toNat : Nat) : Int)), (3, xI x1), (4, xI t1)] [] σ := by
  intro k
  induction k with
  | zero =>
    intro e σ a b2 hk hsz
    refine g_iload dX6_likely_50 rfl ?_
    refine g_iload_n dX6_likely_52 rfl ?_
    refine g_cmp_ge 69 dX6_likely_53 rfl (fun c_53 => ?_) (fun c_53 => absurd (by rw [x_nat (by omega), x_nat (by omega)]; omega) c_53)
    refine g_iconst dX6_likely_69 ?_
    refine g_istore (lv' := [_, _, _, _, _, _, _, _]) dX6_likely_70 (Nat.le_of_ble_eq_true rfl) rfl ?_
    refine g_sub (lv2 := [(7, xI ((0 : Nat) : Int)), _, _, _, _, _, _, _]) [0, 1, 2, 3, 4, 5, 6, 7] rfl ?_
    exact f_cv rfl rfl (lh_X6_likely_72 l n p1 n1 x1 t1 K hn hK h1w hnw (2 ^ n1.toNat) 0 _ _ _ (by refine ⟨Nat.zero_add _, by omega, by omega⟩) hsz)
  | succ k ih =>
    intro e σ a b2 hk hsz
    have hP6 : p1.toNat < 6 := hk.2.1
    refine g_iload dX6_likely_50 rfl ?_
    refine g_iload_n dX6_likely_52 rfl ?_
    refine g_cmp_ge 69 dX6_likely_53 rfl (fun c_53 => absurd c_53 (by rw [x_nat (by omega), x_nat (by omega)]; omega)) (fun c_53 => ?_)
    refine g_iload dX6_likely_56 rfl ?_
    refine g_bipush dX6_likely_58 (by decide) ?_
    refine g_imul dX6_likely_60 ?_
    refine g_istore (lv' := [_, _, _, _, _, _, _, _]) dX6_likely_61 (Nat.le_of_ble_eq_true rfl) rfl ?_
    refine g_iinc (lv' := [(7, xI (((e + 1) : Nat) : Int)), _, _, _, _, _, _, _]) dX6_likely_63 (Nat.le_of_ble_eq_true rfl) rfl rfl ?_
    refine g_goto 50 dX6_likely_66 rfl ?_
    refine g_sub (lv2 := [(7, xI (((e + 1) : Nat) : Int)), _, _, _, _, _, _, _]) [0, 2, 1, 3, 4, 5, 6, 7] rfl ?_
    exact f_cv rfl rfl (ih (e + 1) _ _ _ (by omega) hsz)
def V_X6_likely (σ : xMi) (p1 : Int) (n1 : Int) (x1 : Int) (t1 : Int) (K : Nat) : Int := (if x_wr (V_X6_isPerson σ p1) = 0 then (-1) else (if x_wr n1 < 0 then (-1) else (if x_wr 7 < x_wr n1 then (-1) else (if x_wr x1 < 0 then (-1) else (if x_wr 10 < x_wr x1 then (-1) else (if x_wr t1 < 0 then (-1) else (if x_wr t1 ≤ x_wr 1 then (RV_X6_likely_50 p1 n1 x1 t1 K n1.toNat 0 σ 0 1) else (-1))))))))
def S_X6_likely (σ : xMi) (p1 : Int) (n1 : Int) (x1 : Int) (t1 : Int) (K : Nat) : xMi := (if x_wr (V_X6_isPerson σ p1) = 0 then σ else (if x_wr n1 < 0 then σ else (if x_wr 7 < x_wr n1 then σ else (if x_wr x1 < 0 then σ else (if x_wr 10 < x_wr x1 then σ else (if x_wr t1 < 0 then σ else (if x_wr t1 ≤ x_wr 1 then (RS_X6_likely_50 p1 n1 x1 t1 K n1.toNat 0 σ 0 1) else σ)))))))
theorem c_X6_likely (l : Launch) (n : Nat) (σ : xMi) (p1 : Int) (n1 : Int) (x1 : Int) (t1 : Int) (K : Nat) (hn : 131 ≤ n) (hK : K ≤ 6) (h1w : x_wr p1 = p1) (hnw : x_wr n1 = n1) (hsz : σ 5 0 4 = (K : Int)) : x_F l yX6_likely RX6 cX6_likely 8 (some .int) 5 n σ [xR 23 0, xI p1, xI n1, xI x1, xI t1] (some (xI (V_X6_likely σ p1 n1 x1 t1 K))) (S_X6_likely σ p1 n1 x1 t1 K) := by
  refine f_of (by decide) rfl (Nat.le_of_ble_eq_true rfl) rfl ?_
  refine g_aload_n dX6_likely_0 rfl ?_
  refine g_iload_n dX6_likely_1 rfl ?_
  refine f_V dX6_likely_2 cs_X6_102 mb_X6_isPerson (c_X6_isPerson l n _ p1 hn) rfl (x_vC hn (Nat.le_of_ble_eq_true rfl) (Nat.le_of_ble_eq_true rfl)) rfl rfl rfl (Nat.le_of_ble_eq_true rfl) (by decide) (Nat.le_of_ble_eq_true rfl) (Nat.le_refl _) (Nat.le_refl _) ?_
  refine g_if_eq 39 dX6_likely_5 rfl (fun c_5 => ?_) (fun c_5 => ?_)
  · refine g_iconst dX6_likely_39 ?_
    exact f_iret dX6_likely_40 (by rw [V_X6_likely, if_pos c_5]) (by rw [S_X6_likely, if_pos c_5])
  · refine g_iload_n dX6_likely_8 rfl ?_
    refine g_if_lt 39 dX6_likely_9 rfl (fun c_9 => ?_) (fun c_9 => ?_)
    · refine g_iconst dX6_likely_39 ?_
      exact f_iret dX6_likely_40 (by rw [V_X6_likely, if_neg c_5, if_pos c_9]) (by rw [S_X6_likely, if_neg c_5, if_pos c_9])
    · refine g_iload_n dX6_likely_12 rfl ?_
      refine g_bipush dX6_likely_13 (by decide) ?_
      refine g_cmp_gt 39 dX6_likely_15 rfl (fun c_15 => ?_) (fun c_15 => ?_)
      · refine g_iconst dX6_likely_39 ?_
        exact f_iret dX6_likely_40 (by rw [V_X6_likely, if_neg c_5, if_neg c_9, if_pos c_15]) (by rw [S_X6_likely, if_neg c_5, if_neg c_9, if_pos c_15])
      · refine g_iload_n dX6_likely_18 rfl ?_
        refine g_if_lt 39 dX6_likely_19 rfl (fun c_19 => ?_) (fun c_19 => ?_)
        · refine g_iconst dX6_likely_39 ?_
          exact f_iret dX6_likely_40 (by rw [V_X6_likely, if_neg c_5, if_neg c_9, if_neg c_15, if_pos c_19]) (by rw [S_X6_likely, if_neg c_5, if_neg c_9, if_neg c_15, if_pos c_19])
        · refine g_iload_n dX6_likely_22 rfl ?_
          refine g_bipush dX6_likely_23 (by decide) ?_
          refine g_cmp_gt 39 dX6_likely_25 rfl (fun c_25 => ?_) (fun c_25 => ?_)
          · refine g_iconst dX6_likely_39 ?_
            exact f_iret dX6_likely_40 (by rw [V_X6_likely, if_neg c_5, if_neg c_9, if_neg c_15, if_neg c_19, if_pos c_25]) (by rw [S_X6_likely, if_neg c_5, if_neg c_9, if_neg c_15, if_neg c_19, if_pos c_25])
          · refine g_iload dX6_likely_28 rfl ?_
            refine g_if_lt 39 dX6_likely_30 rfl (fun c_30 => ?_) (fun c_30 => ?_)
            · refine g_iconst dX6_likely_39 ?_
              exact f_iret dX6_likely_40 (by rw [V_X6_likely, if_neg c_5, if_neg c_9, if_neg c_15, if_neg c_19, if_neg c_25, if_pos c_30]) (by rw [S_X6_likely, if_neg c_5, if_neg c_9, if_neg c_15, if_neg c_19, if_neg c_25, if_pos c_30])
            · refine g_iload dX6_likely_33 rfl ?_
              refine g_iconst dX6_likely_35 ?_
              refine g_cmp_le 41 dX6_likely_36 rfl (fun c_36 => ?_) (fun c_36 => ?_)
              · have hP := l_isPerson h1w hK hsz c_5
                have hP6 := hP.2.2
                refine g_lveq (lv2 := [(0, xR 23 0), (1, xI ((p1.toNat : Nat) : Int)), (2, xI n1), (3, xI x1), (4, xI t1)]) (by rw [← hP.1] <;> rfl) ?_
                have hN : n1 = ((n1.toNat : Nat) : Int) ∧ n1.toNat ≤ 7 := by rw [hnw] at c_9; rw [hnw, show x_wr 7 = 7 from by decide] at c_15; omega
                refine g_lveq (lv2 := [(0, xR 23 0), (1, xI ((p1.toNat : Nat) : Int)), (2, xI ((n1.toNat : Nat) : Int)), (3, xI x1), (4, xI t1)]) (by rw [← hN.1] <;> rfl) ?_
                refine g_iconst dX6_likely_41 ?_
                refine g_istore (lv' := [_, _, _, _, _, _]) dX6_likely_42 (Nat.le_of_ble_eq_true rfl) rfl ?_
                refine g_iconst dX6_likely_44 ?_
                refine g_istore (lv' := [_, _, _, _, _, _, _]) dX6_likely_45 (Nat.le_of_ble_eq_true rfl) rfl ?_
                refine g_iconst dX6_likely_47 ?_
                refine g_istore (lv' := [_, _, _, _, _, _, _, _]) dX6_likely_48 (Nat.le_of_ble_eq_true rfl) rfl ?_
                refine g_sub (lv2 := [(7, xI ((0 : Nat) : Int)), _, _, _, _, _, _, _]) [0, 2, 1, 3, 4, 5, 6, 7] rfl ?_
                exact f_cv (by rw [V_X6_likely, if_neg c_5, if_neg c_9, if_neg c_15, if_neg c_19, if_neg c_25, if_neg c_30, if_pos c_36]) (by rw [S_X6_likely, if_neg c_5, if_neg c_9, if_neg c_15, if_neg c_19, if_neg c_25, if_neg c_30, if_pos c_36]) (lh_X6_likely_50 l n p1 n1 x1 t1 K hn hK h1w hnw n1.toNat 0 _ _ _ (by omega) hsz)
              · refine g_iconst dX6_likely_39 ?_
                exact f_iret dX6_likely_40 (by rw [V_X6_likely, if_neg c_5, if_neg c_9, if_neg c_15, if_neg c_19, if_neg c_25, if_neg c_30, if_neg c_36]) (by rw [S_X6_likely, if_neg c_5, if_neg c_9, if_neg c_15, if_neg c_19, if_neg c_25, if_neg c_30, if_neg c_36])

def RV_X6_year_47 (z1 : Int) (n1 : Int) (w1 : Int) (K : Nat) : Nat → Nat → xMi → Int
  | 0, e, σ => (if x_wr w1 = 0 then (V_X0_softWeight σ 1 K) else (if x_wr w1 = x_wr 1 then (V_J6_bitCount_0f7a4 σ (V_X0_toldBits σ 1 K)) else (σ 0 1 9)))
  | k + 1, e, σ => (RV_X6_year_47 z1 n1 w1 K k (e + 1) (S_X0_passDay (S_X0_actByDraw σ 1 (x_dr z1.toNat e) K) 1 0 K) )
def RS_X6_year_47 (z1 : Int) (n1 : Int) (w1 : Int) (K : Nat) : Nat → Nat → xMi → xMi
  | 0, e, σ => (if x_wr w1 = 0 then σ else (if x_wr w1 = x_wr 1 then σ else σ))
  | k + 1, e, σ => (RS_X6_year_47 z1 n1 w1 K k (e + 1) (S_X0_passDay (S_X0_actByDraw σ 1 (x_dr z1.toNat e) K) 1 0 K) )
theorem lh_X6_year_47 (l : Launch) (n : Nat) (z1 : Int) (n1 : Int) (w1 : Int) (K : Nat) (hn : 131 ≤ n) (hK : K ≤ 6) (hK0 : 0 < K) (hzw : x_wr z1 = z1) (h1w : x_wr n1 = n1) : ∀ (k e : Nat) (σ : xMi) , e + k = n1.toNat ∧ z1.toNat ≤ 9999 ∧ n1.toNat ≤ 60 → (σ 5 0 4 = (K : Int)) →  x_G l RX6 cX6_year 5 (some .int) 4 n (some (xI (RV_X6_year_47 z1 n1 w1 K k e σ ))) (RS_X6_year_47 z1 n1 w1 K k e σ ) 47 [(4, xI (e : Int)), (0, xR 23 0), (1, xI ((z1.toNat : Nat) : Int)), (2, xI ((n1.toNat : Nat) : Int)), (3, xI w1)] [] σ := by
  intro k
  induction k with
  | zero =>
    intro e σ  hk hsz
    refine g_iload dX6_year_47 rfl ?_
    refine g_iload_n dX6_year_49 rfl ?_
    refine g_cmp_ge 80 dX6_year_50 rfl (fun c_50 => ?_) (fun c_50 => absurd (by rw [x_nat (by omega), x_nat (by omega)]; omega) c_50)
    refine g_iload_n dX6_year_80 rfl ?_
    refine g_if_ne 92 dX6_year_81 rfl (fun c_81 => ?_) (fun c_81 => ?_)
    · refine g_iload_n dX6_year_92 rfl ?_
      refine g_iconst dX6_year_93 ?_
      refine g_cmp_ne 110 dX6_year_94 rfl (fun c_94 => ?_) (fun c_94 => ?_)
      · refine g_aload_n dX6_year_110 rfl ?_
        refine g_getR (t2 := 0) (i2 := 1) dX6_year_111 fl_X6_38 (x_vC hn (Nat.le_of_ble_eq_true rfl) (Nat.le_of_ble_eq_true rfl)) rfl rfl rfl ?_
        refine g_getI dX6_year_114 fl_X6_134 (x_vC hn (Nat.le_of_ble_eq_true rfl) (Nat.le_of_ble_eq_true rfl)) rfl rfl ?_
        exact f_iret dX6_year_117 (by rw [RV_X6_year_47, if_neg c_81, if_neg c_94]) (by rw [RS_X6_year_47, if_neg c_81, if_neg c_94])
      · refine g_aload_n dX6_year_97 rfl ?_
        refine g_getR (t2 := 0) (i2 := 1) dX6_year_98 fl_X6_38 (x_vC hn (Nat.le_of_ble_eq_true rfl) (Nat.le_of_ble_eq_true rfl)) rfl rfl rfl ?_
        refine f_V dX6_year_101 cs_X6_140 mb_X0_toldBits (c_X0_toldBits l n _ 1 K hn (Nat.le_of_ble_eq_true rfl) hK hsz) rfl (x_vC hn (Nat.le_of_ble_eq_true rfl) (Nat.le_of_ble_eq_true rfl)) rfl rfl rfl (Nat.le_of_ble_eq_true rfl) (by decide) (Nat.le_of_ble_eq_true rfl) (Nat.le_refl _) (Nat.le_refl _) ?_
        refine f_S dX6_year_104 cs_X6_143 mb_J6_bitCount_0f7a4 (c_J6_bitCount_0f7a4 l n _ (V_X0_toldBits σ 1 K) hn) rfl (Nat.lt_of_lt_of_le (by decide) hn) rfl (Nat.le_of_ble_eq_true rfl) (by decide) (Nat.le_of_ble_eq_true rfl) (Nat.le_refl _) (Nat.le_refl _) ?_
        refine g_goto 117 dX6_year_107 rfl ?_
        exact f_iret dX6_year_117 (by rw [RV_X6_year_47, if_neg c_81, if_pos c_94]) (by rw [RS_X6_year_47, if_neg c_81, if_pos c_94])
    · refine g_aload_n dX6_year_84 rfl ?_
      refine g_getR (t2 := 0) (i2 := 1) dX6_year_85 fl_X6_38 (x_vC hn (Nat.le_of_ble_eq_true rfl) (Nat.le_of_ble_eq_true rfl)) rfl rfl rfl ?_
      refine f_V dX6_year_88 cs_X6_223 mb_X0_softWeight (c_X0_softWeight l n _ 1 K hn (Nat.le_of_ble_eq_true rfl) hK hsz) rfl (x_vC hn (Nat.le_of_ble_eq_true rfl) (Nat.le_of_ble_eq_true rfl)) rfl rfl rfl (Nat.le_of_ble_eq_true rfl) (by decide) (Nat.le_of_ble_eq_true rfl) (Nat.le_refl _) (Nat.le_refl _) ?_
      exact f_iret dX6_year_91 (by rw [RV_X6_year_47, if_pos c_81]) (by rw [RS_X6_year_47, if_pos c_81])
  | succ k ih =>
    intro e σ  hk hsz
    refine g_iload dX6_year_47 rfl ?_
    refine g_iload_n dX6_year_49 rfl ?_
    refine g_cmp_ge 80 dX6_year_50 rfl (fun c_50 => absurd c_50 (by rw [x_nat (by omega), x_nat (by omega)]; omega)) (fun c_50 => ?_)
    refine g_aload_n dX6_year_53 rfl ?_
    refine g_getR (t2 := 0) (i2 := 1) dX6_year_54 fl_X6_38 (x_vC hn (Nat.le_of_ble_eq_true rfl) (Nat.le_of_ble_eq_true rfl)) rfl rfl rfl ?_
    refine g_iload_n dX6_year_57 rfl ?_
    refine g_iload dX6_year_58 rfl ?_
    refine f_S dX6_year_60 cs_X6_217 mb_X6_draw (c_X6_draw l n _ ((z1.toNat : Nat) : Int) (e : Int) hn) rfl (Nat.lt_of_lt_of_le (by decide) hn) rfl (Nat.le_of_ble_eq_true rfl) (by decide) (Nat.le_of_ble_eq_true rfl) (Nat.le_refl _) (Nat.le_refl _) ?_
    refine g_eqI ((x_dr z1.toNat e : Nat) : Int) (l_draw (by omega) (by omega)) ?_
    refine f_Vv dX6_year_63 cs_X6_220 mb_X0_actByDraw (c_X0_actByDraw l n _ 1 (x_dr z1.toNat e) K hn (Nat.le_of_ble_eq_true rfl) (Nat.le_of_lt (Nat.lt_of_lt_of_le (x_dr_lt _ _) (by decide))) hK hK0 hsz) rfl (x_vC hn (Nat.le_of_ble_eq_true rfl) (Nat.le_of_ble_eq_true rfl)) rfl rfl rfl (Nat.le_of_ble_eq_true rfl) (by decide) (Nat.le_of_ble_eq_true rfl) (Nat.le_refl _) (Nat.le_refl _) ?_
    refine g_aload_n dX6_year_66 rfl ?_
    refine g_getR (t2 := 0) (i2 := 1) dX6_year_67 fl_X6_38 (x_vC hn (Nat.le_of_ble_eq_true rfl) (Nat.le_of_ble_eq_true rfl)) rfl rfl rfl ?_
    refine g_iconst dX6_year_70 ?_
    refine f_Vv dX6_year_71 cs_X6_168 mb_X0_passDay (c_X0_passDay l n _ 1 0 K hn (Nat.le_of_ble_eq_true rfl) hK (by first | exact hsz | (simp (disch := first | omega | assumption) only [x_up_o, x_up_k, x_cp_o, fr_S_X0_actByDraw]; exact hsz))) rfl (x_vC hn (Nat.le_of_ble_eq_true rfl) (Nat.le_of_ble_eq_true rfl)) rfl rfl rfl (Nat.le_of_ble_eq_true rfl) (by decide) (Nat.le_of_ble_eq_true rfl) (Nat.le_refl _) (Nat.le_refl _) ?_
    refine g_iinc (lv' := [(4, xI (((e + 1) : Nat) : Int)), _, _, _, _]) dX6_year_74 (Nat.le_of_ble_eq_true rfl) rfl rfl ?_
    refine g_goto 47 dX6_year_77 rfl ?_
    refine g_sub (lv2 := [(4, xI (((e + 1) : Nat) : Int)), _, _, _, _]) [0, 1, 2, 3, 4] rfl ?_
    exact f_cv rfl rfl (ih (e + 1) _  (by omega) (by first | exact hsz | (simp (disch := omega) only [x_up_o, x_up_k, x_cp_o, fr_S_X0_actByDraw, fr_S_X0_passDay]; exact hsz) | (simp (disch := first | omega | assumption) only [x_up_o, x_up_k, x_cp_o, fr_S_X0_actByDraw, fr_S_X0_passDay]; exact hsz)))
def V_X6_year (σ : xMi) (z1 : Int) (n1 : Int) (w1 : Int) (K : Nat) : Int := (if x_wr z1 < 0 then (-1) else (if x_wr 9999 < x_wr z1 then (-1) else (if x_wr n1 < x_wr 1 then (-1) else (if x_wr 60 < x_wr n1 then (-1) else (if x_wr w1 < 0 then (-1) else (if x_wr w1 ≤ x_wr 2 then (RV_X6_year_47 z1 n1 w1 K n1.toNat 0 (S_X0_copyFrom σ 1 0) ) else (-1)))))))
def S_X6_year (σ : xMi) (z1 : Int) (n1 : Int) (w1 : Int) (K : Nat) : xMi := (if x_wr z1 < 0 then σ else (if x_wr 9999 < x_wr z1 then σ else (if x_wr n1 < x_wr 1 then σ else (if x_wr 60 < x_wr n1 then σ else (if x_wr w1 < 0 then σ else (if x_wr w1 ≤ x_wr 2 then (RS_X6_year_47 z1 n1 w1 K n1.toNat 0 (S_X0_copyFrom σ 1 0) ) else σ))))))
theorem c_X6_year (l : Launch) (n : Nat) (σ : xMi) (z1 : Int) (n1 : Int) (w1 : Int) (K : Nat) (hn : 131 ≤ n) (hK : K ≤ 6) (hK0 : 0 < K) (hzw : x_wr z1 = z1) (h1w : x_wr n1 = n1) (hsz : σ 5 0 4 = (K : Int)) : x_F l yX6_year RX6 cX6_year 5 (some .int) 4 n σ [xR 23 0, xI z1, xI n1, xI w1] (some (xI (V_X6_year σ z1 n1 w1 K))) (S_X6_year σ z1 n1 w1 K) := by
  refine f_of (by decide) rfl (Nat.le_of_ble_eq_true rfl) rfl ?_
  refine g_iload_n dX6_year_0 rfl ?_
  refine g_if_lt 31 dX6_year_1 rfl (fun c_1 => ?_) (fun c_1 => ?_)
  · refine g_iconst dX6_year_31 ?_
    exact f_iret dX6_year_32 (by rw [V_X6_year, if_pos c_1]) (by rw [S_X6_year, if_pos c_1])
  · refine g_iload_n dX6_year_4 rfl ?_
    refine g_sipush dX6_year_5 (by decide) ?_
    refine g_cmp_gt 31 dX6_year_8 rfl (fun c_8 => ?_) (fun c_8 => ?_)
    · refine g_iconst dX6_year_31 ?_
      exact f_iret dX6_year_32 (by rw [V_X6_year, if_neg c_1, if_pos c_8]) (by rw [S_X6_year, if_neg c_1, if_pos c_8])
    · refine g_iload_n dX6_year_11 rfl ?_
      refine g_iconst dX6_year_12 ?_
      refine g_cmp_lt 31 dX6_year_13 rfl (fun c_13 => ?_) (fun c_13 => ?_)
      · refine g_iconst dX6_year_31 ?_
        exact f_iret dX6_year_32 (by rw [V_X6_year, if_neg c_1, if_neg c_8, if_pos c_13]) (by rw [S_X6_year, if_neg c_1, if_neg c_8, if_pos c_13])
      · refine g_iload_n dX6_year_16 rfl ?_
        refine g_bipush dX6_year_17 (by decide) ?_
        refine g_cmp_gt 31 dX6_year_19 rfl (fun c_19 => ?_) (fun c_19 => ?_)
        · refine g_iconst dX6_year_31 ?_
          exact f_iret dX6_year_32 (by rw [V_X6_year, if_neg c_1, if_neg c_8, if_neg c_13, if_pos c_19]) (by rw [S_X6_year, if_neg c_1, if_neg c_8, if_neg c_13, if_pos c_19])
        · refine g_iload_n dX6_year_22 rfl ?_
          refine g_if_lt 31 dX6_year_23 rfl (fun c_23 => ?_) (fun c_23 => ?_)
          · refine g_iconst dX6_year_31 ?_
            exact f_iret dX6_year_32 (by rw [V_X6_year, if_neg c_1, if_neg c_8, if_neg c_13, if_neg c_19, if_pos c_23]) (by rw [S_X6_year, if_neg c_1, if_neg c_8, if_neg c_13, if_neg c_19, if_pos c_23])
          · refine g_iload_n dX6_year_26 rfl ?_
            refine g_iconst dX6_year_27 ?_
            refine g_cmp_le 33 dX6_year_28 rfl (fun c_28 => ?_) (fun c_28 => ?_)
            · have hZ : z1 = ((z1.toNat : Nat) : Int) ∧ z1.toNat ≤ 9999 := by rw [hzw] at c_1; rw [hzw, show x_wr 9999 = 9999 from by decide] at c_8; omega
              refine g_lveq (lv2 := [(0, xR 23 0), (1, xI ((z1.toNat : Nat) : Int)), (2, xI n1), (3, xI w1)]) (by rw [← hZ.1] <;> rfl) ?_
              have hN : n1 = ((n1.toNat : Nat) : Int) ∧ n1.toNat ≤ 60 := by rw [h1w, show x_wr 1 = 1 from by decide] at c_13; rw [h1w, show x_wr 60 = 60 from by decide] at c_19; omega
              refine g_lveq (lv2 := [(0, xR 23 0), (1, xI ((z1.toNat : Nat) : Int)), (2, xI ((n1.toNat : Nat) : Int)), (3, xI w1)]) (by rw [← hN.1] <;> rfl) ?_
              refine g_aload_n dX6_year_33 rfl ?_
              refine g_getR (t2 := 0) (i2 := 1) dX6_year_34 fl_X6_38 (x_vC hn (Nat.le_of_ble_eq_true rfl) (Nat.le_of_ble_eq_true rfl)) rfl rfl rfl ?_
              refine g_aload_n dX6_year_37 rfl ?_
              refine g_getR (t2 := 0) (i2 := 0) dX6_year_38 fl_X6_34 (x_vC hn (Nat.le_of_ble_eq_true rfl) (Nat.le_of_ble_eq_true rfl)) rfl rfl rfl ?_
              refine f_Vv dX6_year_41 cs_X6_156 mb_X0_copyFrom (c_X0_copyFrom l n _ 1 0 hn (Nat.le_of_ble_eq_true rfl) (Nat.le_of_ble_eq_true rfl)) rfl (x_vC hn (Nat.le_of_ble_eq_true rfl) (Nat.le_of_ble_eq_true rfl)) rfl rfl rfl (Nat.le_of_ble_eq_true rfl) (by decide) (Nat.le_of_ble_eq_true rfl) (Nat.le_refl _) (Nat.le_refl _) ?_
              refine g_iconst dX6_year_44 ?_
              refine g_istore (lv' := [_, _, _, _, _]) dX6_year_45 (Nat.le_of_ble_eq_true rfl) rfl ?_
              refine g_sub (lv2 := [(4, xI ((0 : Nat) : Int)), _, _, _, _]) [0, 1, 2, 3, 4] rfl ?_
              exact f_cv (by rw [V_X6_year, if_neg c_1, if_neg c_8, if_neg c_13, if_neg c_19, if_neg c_23, if_pos c_28]) (by rw [S_X6_year, if_neg c_1, if_neg c_8, if_neg c_13, if_neg c_19, if_neg c_23, if_pos c_28]) (lh_X6_year_47 l n z1 n1 w1 K hn hK hK0 hzw h1w n1.toNat 0 _  (by omega) (by first | exact hsz | (simp (disch := omega) only [x_up_o, x_up_k, x_cp_o, fr_S_X0_copyFrom]; exact hsz) | (simp (disch := first | omega | assumption) only [x_up_o, x_up_k, x_cp_o, fr_S_X0_copyFrom]; exact hsz)))
            · refine g_iconst dX6_year_31 ?_
              exact f_iret dX6_year_32 (by rw [V_X6_year, if_neg c_1, if_neg c_8, if_neg c_13, if_neg c_19, if_neg c_23, if_neg c_28]) (by rw [S_X6_year, if_neg c_1, if_neg c_8, if_neg c_13, if_neg c_19, if_neg c_23, if_neg c_28])

def V_X6_count (σ : xMi) (w1 : Int) (K : Nat) : Int := (if x_wr w1 = 0 then (σ 5 0 4) else (if x_wr w1 = 1 then (σ 0 0 10) else (if x_wr w1 = 2 then (σ 0 0 9) else (if x_wr w1 = 3 then (V_X0_allOnWay σ 0 K) else (if x_wr w1 = 4 then (V_J6_bitCount_0f7a4 σ (V_X0_eatingBits σ 0 K)) else (if x_wr w1 = 5 then (V_J6_bitCount_0f7a4 σ (V_X0_toldBits σ 0 K)) else (if x_wr w1 = 6 then (V_J6_bitCount_0f7a4 σ (σ 0 0 6)) else (if x_wr w1 = 7 then (σ 0 0 8) else (if x_wr w1 = 8 then (σ 15 0 3) else (if x_wr w1 = 9 then (σ 13 0 1) else (if x_wr w1 = 10 then (σ 13 1 1) else (if x_wr w1 = 11 then (σ 10 0 2) else (-1)))))))))))))
theorem c_X6_count (l : Launch) (n : Nat) (σ : xMi) (w1 : Int) (K : Nat) (hn : 131 ≤ n) (hK : K ≤ 6) (hsz : σ 5 0 4 = (K : Int)) : x_F l yX6_count RX6 cX6_count 2 (some .int) 2 n σ [xR 23 0, xI w1] (some (xI (V_X6_count σ w1 K))) σ := by
  refine f_of (by decide) rfl (Nat.le_of_ble_eq_true rfl) rfl ?_
  refine g_iload_n dX6_count_0 rfl ?_
  by_cases s_1_0 : x_wr w1 = 0
  · refine g_tin 64 dX6_count_1 (by omega) (by omega) (by rw [s_1_0]; rfl) rfl ?_
    refine g_aload_n dX6_count_64 rfl ?_
    refine g_getR (t2 := 5) (i2 := 0) dX6_count_65 fl_X6_19 (x_vC hn (Nat.le_of_ble_eq_true rfl) (Nat.le_of_ble_eq_true rfl)) rfl rfl rfl ?_
    refine g_getI dX6_count_68 fl_X6_99 (x_vC hn (Nat.le_of_ble_eq_true rfl) (Nat.le_of_ble_eq_true rfl)) rfl rfl ?_
    exact f_iret dX6_count_71 (by rw [V_X6_count, if_pos s_1_0]) rfl
  · by_cases s_1_1 : x_wr w1 = 1
    · refine g_tin 72 dX6_count_1 (by omega) (by omega) (by rw [s_1_1]; rfl) rfl ?_
      refine g_aload_n dX6_count_72 rfl ?_
      refine g_getR (t2 := 0) (i2 := 0) dX6_count_73 fl_X6_34 (x_vC hn (Nat.le_of_ble_eq_true rfl) (Nat.le_of_ble_eq_true rfl)) rfl rfl rfl ?_
      refine g_getI dX6_count_76 fl_X6_137 (x_vC hn (Nat.le_of_ble_eq_true rfl) (Nat.le_of_ble_eq_true rfl)) rfl rfl ?_
      exact f_iret dX6_count_79 (by rw [V_X6_count, if_neg s_1_0, if_pos s_1_1]) rfl
    · by_cases s_1_2 : x_wr w1 = 2
      · refine g_tin 80 dX6_count_1 (by omega) (by omega) (by rw [s_1_2]; rfl) rfl ?_
        refine g_aload_n dX6_count_80 rfl ?_
        refine g_getR (t2 := 0) (i2 := 0) dX6_count_81 fl_X6_34 (x_vC hn (Nat.le_of_ble_eq_true rfl) (Nat.le_of_ble_eq_true rfl)) rfl rfl rfl ?_
        refine g_getI dX6_count_84 fl_X6_134 (x_vC hn (Nat.le_of_ble_eq_true rfl) (Nat.le_of_ble_eq_true rfl)) rfl rfl ?_
        exact f_iret dX6_count_87 (by rw [V_X6_count, if_neg s_1_0, if_neg s_1_1, if_pos s_1_2]) rfl
      · by_cases s_1_3 : x_wr w1 = 3
        · refine g_tin 88 dX6_count_1 (by omega) (by omega) (by rw [s_1_3]; rfl) rfl ?_
          refine g_aload_n dX6_count_88 rfl ?_
          refine g_getR (t2 := 0) (i2 := 0) dX6_count_89 fl_X6_34 (x_vC hn (Nat.le_of_ble_eq_true rfl) (Nat.le_of_ble_eq_true rfl)) rfl rfl rfl ?_
          refine f_V dX6_count_92 cs_X6_226 mb_X0_allOnWay (c_X0_allOnWay l n _ 0 K hn (Nat.le_of_ble_eq_true rfl) hK hsz) rfl (x_vC hn (Nat.le_of_ble_eq_true rfl) (Nat.le_of_ble_eq_true rfl)) rfl rfl rfl (Nat.le_of_ble_eq_true rfl) (by decide) (Nat.le_of_ble_eq_true rfl) (Nat.le_refl _) (Nat.le_refl _) ?_
          exact f_iret dX6_count_95 (by rw [V_X6_count, if_neg s_1_0, if_neg s_1_1, if_neg s_1_2, if_pos s_1_3]) rfl
        · by_cases s_1_4 : x_wr w1 = 4
          · refine g_tin 96 dX6_count_1 (by omega) (by omega) (by rw [s_1_4]; rfl) rfl ?_
            refine g_aload_n dX6_count_96 rfl ?_
            refine g_getR (t2 := 0) (i2 := 0) dX6_count_97 fl_X6_34 (x_vC hn (Nat.le_of_ble_eq_true rfl) (Nat.le_of_ble_eq_true rfl)) rfl rfl rfl ?_
            refine f_V dX6_count_100 cs_X6_159 mb_X0_eatingBits (c_X0_eatingBits l n _ 0 K hn (Nat.le_of_ble_eq_true rfl) hK hsz) rfl (x_vC hn (Nat.le_of_ble_eq_true rfl) (Nat.le_of_ble_eq_true rfl)) rfl rfl rfl (Nat.le_of_ble_eq_true rfl) (by decide) (Nat.le_of_ble_eq_true rfl) (Nat.le_refl _) (Nat.le_refl _) ?_
            refine f_S dX6_count_103 cs_X6_143 mb_J6_bitCount_0f7a4 (c_J6_bitCount_0f7a4 l n _ (V_X0_eatingBits σ 0 K) hn) rfl (Nat.lt_of_lt_of_le (by decide) hn) rfl (Nat.le_of_ble_eq_true rfl) (by decide) (Nat.le_of_ble_eq_true rfl) (Nat.le_refl _) (Nat.le_refl _) ?_
            exact f_iret dX6_count_106 (by rw [V_X6_count, if_neg s_1_0, if_neg s_1_1, if_neg s_1_2, if_neg s_1_3, if_pos s_1_4]) rfl
          · by_cases s_1_5 : x_wr w1 = 5
            · refine g_tin 107 dX6_count_1 (by omega) (by omega) (by rw [s_1_5]; rfl) rfl ?_
              refine g_aload_n dX6_count_107 rfl ?_
              refine g_getR (t2 := 0) (i2 := 0) dX6_count_108 fl_X6_34 (x_vC hn (Nat.le_of_ble_eq_true rfl) (Nat.le_of_ble_eq_true rfl)) rfl rfl rfl ?_
              refine f_V dX6_count_111 cs_X6_140 mb_X0_toldBits (c_X0_toldBits l n _ 0 K hn (Nat.le_of_ble_eq_true rfl) hK hsz) rfl (x_vC hn (Nat.le_of_ble_eq_true rfl) (Nat.le_of_ble_eq_true rfl)) rfl rfl rfl (Nat.le_of_ble_eq_true rfl) (by decide) (Nat.le_of_ble_eq_true rfl) (Nat.le_refl _) (Nat.le_refl _) ?_
              refine f_S dX6_count_114 cs_X6_143 mb_J6_bitCount_0f7a4 (c_J6_bitCount_0f7a4 l n _ (V_X0_toldBits σ 0 K) hn) rfl (Nat.lt_of_lt_of_le (by decide) hn) rfl (Nat.le_of_ble_eq_true rfl) (by decide) (Nat.le_of_ble_eq_true rfl) (Nat.le_refl _) (Nat.le_refl _) ?_
              exact f_iret dX6_count_117 (by rw [V_X6_count, if_neg s_1_0, if_neg s_1_1, if_neg s_1_2, if_neg s_1_3, if_neg s_1_4, if_pos s_1_5]) rfl
            · by_cases s_1_6 : x_wr w1 = 6
              · refine g_tin 118 dX6_count_1 (by omega) (by omega) (by rw [s_1_6]; rfl) rfl ?_
                refine g_aload_n dX6_count_118 rfl ?_
                refine g_getR (t2 := 0) (i2 := 0) dX6_count_119 fl_X6_34 (x_vC hn (Nat.le_of_ble_eq_true rfl) (Nat.le_of_ble_eq_true rfl)) rfl rfl rfl ?_
                refine g_getI dX6_count_122 fl_X6_162 (x_vC hn (Nat.le_of_ble_eq_true rfl) (Nat.le_of_ble_eq_true rfl)) rfl rfl ?_
                refine f_S dX6_count_125 cs_X6_143 mb_J6_bitCount_0f7a4 (c_J6_bitCount_0f7a4 l n _ (σ 0 0 6) hn) rfl (Nat.lt_of_lt_of_le (by decide) hn) rfl (Nat.le_of_ble_eq_true rfl) (by decide) (Nat.le_of_ble_eq_true rfl) (Nat.le_refl _) (Nat.le_refl _) ?_
                exact f_iret dX6_count_128 (by rw [V_X6_count, if_neg s_1_0, if_neg s_1_1, if_neg s_1_2, if_neg s_1_3, if_neg s_1_4, if_neg s_1_5, if_pos s_1_6]) rfl
              · by_cases s_1_7 : x_wr w1 = 7
                · refine g_tin 129 dX6_count_1 (by omega) (by omega) (by rw [s_1_7]; rfl) rfl ?_
                  refine g_aload_n dX6_count_129 rfl ?_
                  refine g_getR (t2 := 0) (i2 := 0) dX6_count_130 fl_X6_34 (x_vC hn (Nat.le_of_ble_eq_true rfl) (Nat.le_of_ble_eq_true rfl)) rfl rfl rfl ?_
                  refine g_getI dX6_count_133 fl_X6_229 (x_vC hn (Nat.le_of_ble_eq_true rfl) (Nat.le_of_ble_eq_true rfl)) rfl rfl ?_
                  exact f_iret dX6_count_136 (by rw [V_X6_count, if_neg s_1_0, if_neg s_1_1, if_neg s_1_2, if_neg s_1_3, if_neg s_1_4, if_neg s_1_5, if_neg s_1_6, if_pos s_1_7]) rfl
                · by_cases s_1_8 : x_wr w1 = 8
                  · refine g_tin 137 dX6_count_1 (by omega) (by omega) (by rw [s_1_8]; rfl) rfl ?_
                    refine g_aload_n dX6_count_137 rfl ?_
                    refine g_getR (t2 := 15) (i2 := 0) dX6_count_138 fl_X6_59 (x_vC hn (Nat.le_of_ble_eq_true rfl) (Nat.le_of_ble_eq_true rfl)) rfl rfl rfl ?_
                    refine g_getI dX6_count_141 fl_X6_189 (x_vC hn (Nat.le_of_ble_eq_true rfl) (Nat.le_of_ble_eq_true rfl)) rfl rfl ?_
                    exact f_iret dX6_count_144 (by rw [V_X6_count, if_neg s_1_0, if_neg s_1_1, if_neg s_1_2, if_neg s_1_3, if_neg s_1_4, if_neg s_1_5, if_neg s_1_6, if_neg s_1_7, if_pos s_1_8]) rfl
                  · by_cases s_1_9 : x_wr w1 = 9
                    · refine g_tin 145 dX6_count_1 (by omega) (by omega) (by rw [s_1_9]; rfl) rfl ?_
                      refine g_aload_n dX6_count_145 rfl ?_
                      refine g_getR (t2 := 13) (i2 := 0) dX6_count_146 fl_X6_49 (x_vC hn (Nat.le_of_ble_eq_true rfl) (Nat.le_of_ble_eq_true rfl)) rfl rfl rfl ?_
                      refine g_getI dX6_count_149 fl_X6_155 (x_vC hn (Nat.le_of_ble_eq_true rfl) (Nat.le_of_ble_eq_true rfl)) rfl rfl ?_
                      exact f_iret dX6_count_152 (by rw [V_X6_count, if_neg s_1_0, if_neg s_1_1, if_neg s_1_2, if_neg s_1_3, if_neg s_1_4, if_neg s_1_5, if_neg s_1_6, if_neg s_1_7, if_neg s_1_8, if_pos s_1_9]) rfl
                    · by_cases s_1_10 : x_wr w1 = 10
                      · refine g_tin 153 dX6_count_1 (by omega) (by omega) (by rw [s_1_10]; rfl) rfl ?_
                        refine g_aload_n dX6_count_153 rfl ?_
                        refine g_getR (t2 := 13) (i2 := 1) dX6_count_154 fl_X6_53 (x_vC hn (Nat.le_of_ble_eq_true rfl) (Nat.le_of_ble_eq_true rfl)) rfl rfl rfl ?_
                        refine g_getI dX6_count_157 fl_X6_155 (x_vC hn (Nat.le_of_ble_eq_true rfl) (Nat.le_of_ble_eq_true rfl)) rfl rfl ?_
                        exact f_iret dX6_count_160 (by rw [V_X6_count, if_neg s_1_0, if_neg s_1_1, if_neg s_1_2, if_neg s_1_3, if_neg s_1_4, if_neg s_1_5, if_neg s_1_6, if_neg s_1_7, if_neg s_1_8, if_neg s_1_9, if_pos s_1_10]) rfl
                      · by_cases s_1_11 : x_wr w1 = 11
                        · refine g_tin 161 dX6_count_1 (by omega) (by omega) (by rw [s_1_11]; rfl) rfl ?_
                          refine g_aload_n dX6_count_161 rfl ?_
                          refine g_getR (t2 := 10) (i2 := 0) dX6_count_162 fl_X6_10 (x_vC hn (Nat.le_of_ble_eq_true rfl) (Nat.le_of_ble_eq_true rfl)) rfl rfl rfl ?_
                          refine g_getI dX6_count_165 fl_X6_96 (x_vC hn (Nat.le_of_ble_eq_true rfl) (Nat.le_of_ble_eq_true rfl)) rfl rfl ?_
                          exact f_iret dX6_count_168 (by rw [V_X6_count, if_neg s_1_0, if_neg s_1_1, if_neg s_1_2, if_neg s_1_3, if_neg s_1_4, if_neg s_1_5, if_neg s_1_6, if_neg s_1_7, if_neg s_1_8, if_neg s_1_9, if_neg s_1_10, if_pos s_1_11]) rfl
                        · refine g_tout 169 dX6_count_1 (by omega) rfl ?_
                          refine g_iconst dX6_count_169 ?_
                          exact f_iret dX6_count_170 (by rw [V_X6_count, if_neg s_1_0, if_neg s_1_1, if_neg s_1_2, if_neg s_1_3, if_neg s_1_4, if_neg s_1_5, if_neg s_1_6, if_neg s_1_7, if_neg s_1_8, if_neg s_1_9, if_neg s_1_10, if_neg s_1_11]) rfl
