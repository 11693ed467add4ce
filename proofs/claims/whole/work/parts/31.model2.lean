def RV_X7_goesOn_4 (m : Nat) (K : Nat) : Nat → Nat → xMi → Int → Int
  | 0, e, σ, a => a
  | k + 1, e, σ, a => (RV_X7_goesOn_4 m K k (e + 1) (S_X7_passes σ 0 K) (a + (V_X7_passes σ 0 K)))
def RS_X7_goesOn_4 (m : Nat) (K : Nat) : Nat → Nat → xMi → Int → xMi
  | 0, e, σ, a => σ
  | k + 1, e, σ, a => (RS_X7_goesOn_4 m K k (e + 1) (S_X7_passes σ 0 K) (a + (V_X7_passes σ 0 K)))
theorem fr_RS_X7_goesOn_4 (m : Nat) (K : Nat) {t i k' : Nat} (h : ¬ ((t = 24 ∧ 5 ≤ k' ∧ k' ≤ 8) ∨ (29 ≤ t ∧ t ≤ 36))) : ∀ (k e : Nat) (σ : xMi) (a : Int), RS_X7_goesOn_4 m K k e σ a t i k' = σ t i k' := by
  intro k
  induction k with
  | zero =>
    intro e σ a
    simp only [RS_X7_goesOn_4]
    all_goals ((repeat' split) <;> simp (disch := first | omega | assumption) only [x_up_o, x_up_k, x_cp_o])
  | succ k ih =>
    intro e σ a
    simp only [RS_X7_goesOn_4]
    all_goals (repeat' split)
    all_goals (first | rw [ih] | skip)
    all_goals first | done | simp (disch := first | omega | assumption) only [x_up_o, x_up_k, x_cp_o, fr_S_X7_passes]
theorem lh_X7_goesOn_4 (l : Launch) (n : Nat) (m : Nat) (K : Nat) (hn : 154 ≤ n) (hm : m ≤ 1000000) (hK : K ≤ 6) : ∀ (k e : Nat) (σ : xMi) (a : Int), e + k = m → (σ 24 0 0 = (K : Int)) →  x_G l RX7 cX7_goesOn 4 (some .int) 3 n (some (xI (RV_X7_goesOn_4 m K k e σ a))) (RS_X7_goesOn_4 m K k e σ a) 4 [(3, xI (e : Int)), (2, xI a), (0, xR 24 0), (1, xI (m : Int))] [] σ := by
  intro k
  induction k with
  | zero =>
    intro e σ a hk hmy
    refine g_iload_n dX7_goesOn_4 rfl ?_
    refine g_iload_n dX7_goesOn_5 rfl ?_
    refine g_cmp_ge 23 dX7_goesOn_6 rfl (fun c_6 => ?_) (fun c_6 => absurd (by rw [x_nat (by omega), x_nat (by omega)]; omega) c_6)
    refine g_iload_n dX7_goesOn_23 rfl ?_
    exact f_iret dX7_goesOn_24 rfl rfl
  | succ k ih =>
    intro e σ a hk hmy
    refine g_iload_n dX7_goesOn_4 rfl ?_
    refine g_iload_n dX7_goesOn_5 rfl ?_
    refine g_cmp_ge 23 dX7_goesOn_6 rfl (fun c_6 => absurd c_6 (by rw [x_nat (by omega), x_nat (by omega)]; omega)) (fun c_6 => ?_)
    refine g_iload_n dX7_goesOn_9 rfl ?_
    refine g_aload_n dX7_goesOn_10 rfl ?_
    refine g_iconst dX7_goesOn_11 ?_
    refine f_V dX7_goesOn_12 cs_X7_158 mb_X7_passes (c_X7_passes l n _ 0 K hn hK hmy) rfl (x_vM hn (Nat.le_of_ble_eq_true rfl) (Nat.le_of_ble_eq_true rfl)) rfl rfl rfl (Nat.le_of_ble_eq_true rfl) (by decide) (Nat.le_of_ble_eq_true rfl) (Nat.le_refl _) (Nat.le_refl _) ?_
    refine g_iadd dX7_goesOn_15 ?_
    refine g_istore_n (lv' := [_, _, _, _]) dX7_goesOn_16 (Nat.le_of_ble_eq_true rfl) rfl ?_
    refine g_iinc (lv' := [(3, xI (((e + 1) : Nat) : Int)), _, _, _]) dX7_goesOn_17 (Nat.le_of_ble_eq_true rfl) rfl rfl ?_
    refine g_goto 4 dX7_goesOn_20 rfl ?_
    refine g_sub (lv2 := [(3, xI (((e + 1) : Nat) : Int)), _, _, _]) [0, 1, 2, 3] rfl ?_
    exact f_cv rfl rfl (ih (e + 1) _ _ (by omega) (by first | exact hmy | (simp (disch := omega) only [x_up_o, x_up_k, x_cp_o, fr_S_X7_passes]; exact hmy) | (simp (disch := first | omega | assumption) only [x_up_o, x_up_k, x_cp_o, fr_S_X7_passes]; exact hmy)))
def V_X7_goesOn (σ : xMi) (m : Nat) (K : Nat) : Int := (RV_X7_goesOn_4 m K m 0 σ 0)
def S_X7_goesOn (σ : xMi) (m : Nat) (K : Nat) : xMi := (RS_X7_goesOn_4 m K m 0 σ 0)
theorem fr_S_X7_goesOn (σ : xMi) (m : Nat) (K : Nat) {t i k : Nat} (h : ¬ ((t = 24 ∧ 5 ≤ k ∧ k ≤ 8) ∨ (29 ≤ t ∧ t ≤ 36))) : S_X7_goesOn σ m K t i k = σ t i k := by
  unfold S_X7_goesOn
  all_goals ((repeat' split) <;> first | rfl | simp (disch := first | omega | assumption) only [x_up_o, x_up_k, x_cp_o, fr_RS_X7_goesOn_4])
theorem c_X7_goesOn (l : Launch) (n : Nat) (σ : xMi) (m : Nat) (K : Nat) (hn : 154 ≤ n) (hm : m ≤ 1000000) (hK : K ≤ 6) (hmy : σ 24 0 0 = (K : Int)) : x_F l yX7_goesOn RX7 cX7_goesOn 4 (some .int) 3 n σ [xR 24 0, xI (m : Int)] (some (xI (V_X7_goesOn σ m K))) (S_X7_goesOn σ m K) := by
  refine f_of (by decide) rfl (Nat.le_of_ble_eq_true rfl) rfl ?_
  refine g_iconst dX7_goesOn_0 ?_
  refine g_istore_n (lv' := [_, _, _]) dX7_goesOn_1 (Nat.le_of_ble_eq_true rfl) rfl ?_
  refine g_iconst dX7_goesOn_2 ?_
  refine g_istore_n (lv' := [_, _, _, _]) dX7_goesOn_3 (Nat.le_of_ble_eq_true rfl) rfl ?_
  refine g_sub (lv2 := [(3, xI ((0 : Nat) : Int)), _, _, _]) [0, 1, 2, 3] rfl ?_
  exact f_cv rfl rfl (lh_X7_goesOn_4 l n m K hn hm hK m 0 _ _ (by omega) hmy)

def T_X7_lays_42_37_1_1 (σ : xMi) (at1 : Nat) (p : Nat)  : xMi := (x_up (x_up (x_up σ 42 0 ((at1 + 3) + p) (σ 29 0 p)) 42 0 ((at1 + 9) + p) ((x_up σ 42 0 ((at1 + 3) + p) (σ 29 0 p)) 30 0 p)) 42 0 ((at1 + 15) + p) ((x_up (x_up σ 42 0 ((at1 + 3) + p) (σ 29 0 p)) 42 0 ((at1 + 9) + p) ((x_up σ 42 0 ((at1 + 3) + p) (σ 29 0 p)) 30 0 p)) 31 0 p))
def T_X7_lays_42_37_1_2 (σ : xMi) (at1 : Nat) (p : Nat)  : xMi := (x_up (x_up (x_up (T_X7_lays_42_37_1_1 σ at1 p ) 42 0 ((at1 + 21) + p) ((T_X7_lays_42_37_1_1 σ at1 p ) 32 0 p)) 42 0 ((at1 + 27) + p) ((x_up (T_X7_lays_42_37_1_1 σ at1 p ) 42 0 ((at1 + 21) + p) ((T_X7_lays_42_37_1_1 σ at1 p ) 32 0 p)) 33 0 p)) 42 0 ((at1 + 33) + p) ((x_up (x_up (T_X7_lays_42_37_1_1 σ at1 p ) 42 0 ((at1 + 21) + p) ((T_X7_lays_42_37_1_1 σ at1 p ) 32 0 p)) 42 0 ((at1 + 27) + p) ((x_up (T_X7_lays_42_37_1_1 σ at1 p ) 42 0 ((at1 + 21) + p) ((T_X7_lays_42_37_1_1 σ at1 p ) 32 0 p)) 33 0 p)) 34 0 p))
def RS_X7_lays_42_37 (at1 : Nat) : Nat → Nat → xMi → xMi
  | 0, p, σ => σ
  | k + 1, p, σ => (RS_X7_lays_42_37 at1 k (p + 1) (x_up (x_up (T_X7_lays_42_37_1_2 σ at1 p ) 42 0 ((at1 + 39) + p) ((T_X7_lays_42_37_1_2 σ at1 p ) 35 0 p)) 42 0 ((at1 + 45) + p) ((x_up (T_X7_lays_42_37_1_2 σ at1 p ) 42 0 ((at1 + 39) + p) ((T_X7_lays_42_37_1_2 σ at1 p ) 35 0 p)) 36 0 p)) )
theorem fr_RS_X7_lays_42_37 (at1 : Nat) {t i k' : Nat} (h : ¬ (t = 42)) : ∀ (k p : Nat) (σ : xMi) , RS_X7_lays_42_37 at1 k p σ  t i k' = σ t i k' := by
  intro k
  induction k with
  | zero =>
    intro p σ 
    simp only [RS_X7_lays_42_37]
    all_goals ((repeat' split) <;> simp (disch := first | omega | assumption) only [x_up_o, x_up_k, x_cp_o])
  | succ k ih =>
    intro p σ 
    simp only [RS_X7_lays_42_37]
    all_goals (repeat' split)
    all_goals (first | rw [ih] | skip)
    all_goals first | done | simp (disch := first | omega | assumption) only [x_up_o, x_up_k, x_cp_o, T_X7_lays_42_37_1_2, T_X7_lays_42_37_1_1]
theorem lh_X7_lays_42_37 (l : Launch) (n : Nat) (at1 : Nat) (hn : 154 ≤ n) (hat1 : at1 ≤ 1000000) (ha1 : at1 ≤ 364) : ∀ (k p : Nat) (σ : xMi) , p + k = 6 →  x_G l RX7 cX7_lays 4 none 0 n none (RS_X7_lays_42_37 at1 k p σ ) 37 [(3, xI (p : Int)), (0, xR 24 0), (1, xR 42 0), (2, xI (at1 : Int))] [] σ := by
  intro k
  induction k with
  | zero =>
    intro p σ  hk 
    refine g_iload_n dX7_lays_37 rfl ?_
    refine g_bipush dX7_lays_38 (by decide) ?_
    refine g_cmp_ge 160 dX7_lays_40 rfl (fun c_40 => ?_) (fun c_40 => absurd (by rw [show x_wr 6 = 6 from by decide, x_nat (by omega)]; omega) c_40)
    exact f_vret dX7_lays_160 rfl rfl
  | succ k ih =>
    intro p σ  hk 
    have hp : p < 6 := by omega
    refine g_iload_n dX7_lays_37 rfl ?_
    refine g_bipush dX7_lays_38 (by decide) ?_
    refine g_cmp_ge 160 dX7_lays_40 rfl (fun c_40 => absurd c_40 (by rw [show x_wr 6 = 6 from by decide, x_nat (by omega)]; omega)) (fun c_40 => ?_)
    refine g_aload_n dX7_lays_43 rfl ?_
    refine g_iload_n dX7_lays_44 rfl ?_
    refine g_iconst dX7_lays_45 ?_
    refine g_iadd dX7_lays_46 ?_
    refine g_eqI (((at1 + 3) : Nat) : Int) rfl ?_
    refine g_iload_n dX7_lays_47 rfl ?_
    refine g_iadd dX7_lays_48 ?_
    refine g_eqI ((((at1 + 3) + p) : Nat) : Int) rfl ?_
    refine g_aload_n dX7_lays_49 rfl ?_
    refine g_getR (t2 := 29) (i2 := 0) dX7_lays_50 fl_X7_22 (x_vM hn (Nat.le_of_ble_eq_true rfl) (Nat.le_of_ble_eq_true rfl)) rfl rfl rfl ?_
    refine g_iload_n dX7_lays_53 rfl ?_
    refine g_iald p dX7_lays_54 rfl hp (x_vM hn (Nat.le_of_ble_eq_true rfl) (Nat.le_of_ble_eq_true rfl)) rfl ?_
    refine g_iast ((at1 + 3) + p) dX7_lays_55 rfl (show ((at1 + 3) + p) < 416 by omega) (x_vM hn (Nat.le_of_ble_eq_true rfl) (Nat.le_of_ble_eq_true rfl)) rfl ?_
    refine g_aload_n dX7_lays_56 rfl ?_
    refine g_iload_n dX7_lays_57 rfl ?_
    refine g_bipush dX7_lays_58 (by decide) ?_
    refine g_iadd dX7_lays_60 ?_
    refine g_eqI (((at1 + 9) : Nat) : Int) rfl ?_
    refine g_iload_n dX7_lays_61 rfl ?_
    refine g_iadd dX7_lays_62 ?_
    refine g_eqI ((((at1 + 9) + p) : Nat) : Int) rfl ?_
    refine g_aload_n dX7_lays_63 rfl ?_
    refine g_getR (t2 := 30) (i2 := 0) dX7_lays_64 fl_X7_25 (x_vM hn (Nat.le_of_ble_eq_true rfl) (Nat.le_of_ble_eq_true rfl)) rfl rfl rfl ?_
    refine g_iload_n dX7_lays_67 rfl ?_
    refine g_iald p dX7_lays_68 rfl hp (x_vM hn (Nat.le_of_ble_eq_true rfl) (Nat.le_of_ble_eq_true rfl)) rfl ?_
    refine g_iast ((at1 + 9) + p) dX7_lays_69 rfl (show ((at1 + 9) + p) < 416 by omega) (x_vM hn (Nat.le_of_ble_eq_true rfl) (Nat.le_of_ble_eq_true rfl)) rfl ?_
    refine g_aload_n dX7_lays_70 rfl ?_
    refine g_iload_n dX7_lays_71 rfl ?_
    refine g_bipush dX7_lays_72 (by decide) ?_
    refine g_iadd dX7_lays_74 ?_
    refine g_eqI (((at1 + 15) : Nat) : Int) rfl ?_
    refine g_iload_n dX7_lays_75 rfl ?_
    refine g_iadd dX7_lays_76 ?_
    refine g_eqI ((((at1 + 15) + p) : Nat) : Int) rfl ?_
    refine g_aload_n dX7_lays_77 rfl ?_
    refine g_getR (t2 := 31) (i2 := 0) dX7_lays_78 fl_X7_28 (x_vM hn (Nat.le_of_ble_eq_true rfl) (Nat.le_of_ble_eq_true rfl)) rfl rfl rfl ?_
    refine g_iload_n dX7_lays_81 rfl ?_
    refine g_iald p dX7_lays_82 rfl hp (x_vM hn (Nat.le_of_ble_eq_true rfl) (Nat.le_of_ble_eq_true rfl)) rfl ?_
    refine g_iast ((at1 + 15) + p) dX7_lays_83 rfl (show ((at1 + 15) + p) < 416 by omega) (x_vM hn (Nat.le_of_ble_eq_true rfl) (Nat.le_of_ble_eq_true rfl)) rfl ?_
    refine g_mem (T_X7_lays_42_37_1_1 σ at1 p ) rfl ?_
    refine g_aload_n dX7_lays_84 rfl ?_
    refine g_iload_n dX7_lays_85 rfl ?_
    refine g_bipush dX7_lays_86 (by decide) ?_
    refine g_iadd dX7_lays_88 ?_
    refine g_eqI (((at1 + 21) : Nat) : Int) rfl ?_
    refine g_iload_n dX7_lays_89 rfl ?_
    refine g_iadd dX7_lays_90 ?_
    refine g_eqI ((((at1 + 21) + p) : Nat) : Int) rfl ?_
    refine g_aload_n dX7_lays_91 rfl ?_
    refine g_getR (t2 := 32) (i2 := 0) dX7_lays_92 fl_X7_31 (x_vM hn (Nat.le_of_ble_eq_true rfl) (Nat.le_of_ble_eq_true rfl)) rfl rfl rfl ?_
    refine g_iload_n dX7_lays_95 rfl ?_
    refine g_iald p dX7_lays_96 rfl hp (x_vM hn (Nat.le_of_ble_eq_true rfl) (Nat.le_of_ble_eq_true rfl)) rfl ?_
    refine g_iast ((at1 + 21) + p) dX7_lays_97 rfl (show ((at1 + 21) + p) < 416 by omega) (x_vM hn (Nat.le_of_ble_eq_true rfl) (Nat.le_of_ble_eq_true rfl)) rfl ?_
    refine g_aload_n dX7_lays_98 rfl ?_
    refine g_iload_n dX7_lays_99 rfl ?_
    refine g_bipush dX7_lays_100 (by decide) ?_
    refine g_iadd dX7_lays_102 ?_
    refine g_eqI (((at1 + 27) : Nat) : Int) rfl ?_
    refine g_iload_n dX7_lays_103 rfl ?_
    refine g_iadd dX7_lays_104 ?_
    refine g_eqI ((((at1 + 27) + p) : Nat) : Int) rfl ?_
    refine g_aload_n dX7_lays_105 rfl ?_
    refine g_getR (t2 := 33) (i2 := 0) dX7_lays_106 fl_X7_34 (x_vM hn (Nat.le_of_ble_eq_true rfl) (Nat.le_of_ble_eq_true rfl)) rfl rfl rfl ?_
    refine g_iload_n dX7_lays_109 rfl ?_
    refine g_iald p dX7_lays_110 rfl hp (x_vM hn (Nat.le_of_ble_eq_true rfl) (Nat.le_of_ble_eq_true rfl)) rfl ?_
    refine g_iast ((at1 + 27) + p) dX7_lays_111 rfl (show ((at1 + 27) + p) < 416 by omega) (x_vM hn (Nat.le_of_ble_eq_true rfl) (Nat.le_of_ble_eq_true rfl)) rfl ?_
    refine g_aload_n dX7_lays_112 rfl ?_
    refine g_iload_n dX7_lays_113 rfl ?_
    refine g_bipush dX7_lays_114 (by decide) ?_
    refine g_iadd dX7_lays_116 ?_
    refine g_eqI (((at1 + 33) : Nat) : Int) rfl ?_
    refine g_iload_n dX7_lays_117 rfl ?_
    refine g_iadd dX7_lays_118 ?_
    refine g_eqI ((((at1 + 33) + p) : Nat) : Int) rfl ?_
    refine g_aload_n dX7_lays_119 rfl ?_
    refine g_getR (t2 := 34) (i2 := 0) dX7_lays_120 fl_X7_37 (x_vM hn (Nat.le_of_ble_eq_true rfl) (Nat.le_of_ble_eq_true rfl)) rfl rfl rfl ?_
    refine g_iload_n dX7_lays_123 rfl ?_
    refine g_iald p dX7_lays_124 rfl hp (x_vM hn (Nat.le_of_ble_eq_true rfl) (Nat.le_of_ble_eq_true rfl)) rfl ?_
    refine g_iast ((at1 + 33) + p) dX7_lays_125 rfl (show ((at1 + 33) + p) < 416 by omega) (x_vM hn (Nat.le_of_ble_eq_true rfl) (Nat.le_of_ble_eq_true rfl)) rfl ?_
    refine g_mem (T_X7_lays_42_37_1_2 σ at1 p ) rfl ?_
    refine g_aload_n dX7_lays_126 rfl ?_
    refine g_iload_n dX7_lays_127 rfl ?_
    refine g_bipush dX7_lays_128 (by decide) ?_
    refine g_iadd dX7_lays_130 ?_
    refine g_eqI (((at1 + 39) : Nat) : Int) rfl ?_
    refine g_iload_n dX7_lays_131 rfl ?_
    refine g_iadd dX7_lays_132 ?_
    refine g_eqI ((((at1 + 39) + p) : Nat) : Int) rfl ?_
    refine g_aload_n dX7_lays_133 rfl ?_
    refine g_getR (t2 := 35) (i2 := 0) dX7_lays_134 fl_X7_40 (x_vM hn (Nat.le_of_ble_eq_true rfl) (Nat.le_of_ble_eq_true rfl)) rfl rfl rfl ?_
    refine g_iload_n dX7_lays_137 rfl ?_
    refine g_iald p dX7_lays_138 rfl hp (x_vM hn (Nat.le_of_ble_eq_true rfl) (Nat.le_of_ble_eq_true rfl)) rfl ?_
    refine g_iast ((at1 + 39) + p) dX7_lays_139 rfl (show ((at1 + 39) + p) < 416 by omega) (x_vM hn (Nat.le_of_ble_eq_true rfl) (Nat.le_of_ble_eq_true rfl)) rfl ?_
    refine g_aload_n dX7_lays_140 rfl ?_
    refine g_iload_n dX7_lays_141 rfl ?_
    refine g_bipush dX7_lays_142 (by decide) ?_
    refine g_iadd dX7_lays_144 ?_
    refine g_eqI (((at1 + 45) : Nat) : Int) rfl ?_
    refine g_iload_n dX7_lays_145 rfl ?_
    refine g_iadd dX7_lays_146 ?_
    refine g_eqI ((((at1 + 45) + p) : Nat) : Int) rfl ?_
    refine g_aload_n dX7_lays_147 rfl ?_
    refine g_getR (t2 := 36) (i2 := 0) dX7_lays_148 fl_X7_43 (x_vM hn (Nat.le_of_ble_eq_true rfl) (Nat.le_of_ble_eq_true rfl)) rfl rfl rfl ?_
    refine g_iload_n dX7_lays_151 rfl ?_
    refine g_iald p dX7_lays_152 rfl hp (x_vM hn (Nat.le_of_ble_eq_true rfl) (Nat.le_of_ble_eq_true rfl)) rfl ?_
    refine g_iast ((at1 + 45) + p) dX7_lays_153 rfl (show ((at1 + 45) + p) < 416 by omega) (x_vM hn (Nat.le_of_ble_eq_true rfl) (Nat.le_of_ble_eq_true rfl)) rfl ?_
    refine g_iinc (lv' := [(3, xI (((p + 1) : Nat) : Int)), _, _, _]) dX7_lays_154 (Nat.le_of_ble_eq_true rfl) rfl rfl ?_
    refine g_goto 37 dX7_lays_157 rfl ?_
    refine g_sub (lv2 := [(3, xI (((p + 1) : Nat) : Int)), _, _, _]) [0, 1, 2, 3] rfl ?_
    exact f_cv rfl rfl (ih (p + 1) _  (by omega) )
def T_X7_lays_42_1 (σ : xMi) (at1 : Nat) : xMi := (x_up (x_up (x_up (x_up σ 42 0 at1 (σ 24 0 5)) 42 0 (at1 + 1) ((x_up σ 42 0 at1 (σ 24 0 5)) 24 0 6)) 42 0 (at1 + 2) ((x_up (x_up σ 42 0 at1 (σ 24 0 5)) 42 0 (at1 + 1) ((x_up σ 42 0 at1 (σ 24 0 5)) 24 0 6)) 24 0 7)) 42 0 (at1 + 51) ((x_up (x_up (x_up σ 42 0 at1 (σ 24 0 5)) 42 0 (at1 + 1) ((x_up σ 42 0 at1 (σ 24 0 5)) 24 0 6)) 42 0 (at1 + 2) ((x_up (x_up σ 42 0 at1 (σ 24 0 5)) 42 0 (at1 + 1) ((x_up σ 42 0 at1 (σ 24 0 5)) 24 0 6)) 24 0 7)) 24 0 8))
def S_X7_lays_42 (σ : xMi) (at1 : Nat) : xMi := (RS_X7_lays_42_37 at1 6 0 (T_X7_lays_42_1 σ at1) )
theorem fr_S_X7_lays_42 (σ : xMi) (at1 : Nat) {t i k : Nat} (h : ¬ (t = 42)) : S_X7_lays_42 σ at1 t i k = σ t i k := by
  unfold S_X7_lays_42
  all_goals ((repeat' split) <;> first | rfl | simp (disch := first | omega | assumption) only [x_up_o, x_up_k, x_cp_o, T_X7_lays_42_1, fr_RS_X7_lays_42_37])
theorem c_X7_lays_42 (l : Launch) (n : Nat) (σ : xMi) (at1 : Nat) (hn : 154 ≤ n) (hat1 : at1 ≤ 1000000) (ha1 : at1 ≤ 364)  : x_F l yX7_lays RX7 cX7_lays 4 none 0 n σ [xR 24 0, xR 42 0, xI (at1 : Int)] none (S_X7_lays_42 σ at1) := by
  refine f_of (by decide) rfl (Nat.le_of_ble_eq_true rfl) rfl ?_
  refine g_aload_n dX7_lays_0 rfl ?_
  refine g_iload_n dX7_lays_1 rfl ?_
  refine g_aload_n dX7_lays_2 rfl ?_
  refine g_getI dX7_lays_3 fl_X7_88 (x_vM hn (Nat.le_of_ble_eq_true rfl) (Nat.le_of_ble_eq_true rfl)) rfl rfl ?_
  refine g_iast at1 dX7_lays_6 rfl (show at1 < 416 by omega) (x_vM hn (Nat.le_of_ble_eq_true rfl) (Nat.le_of_ble_eq_true rfl)) rfl ?_
  refine g_aload_n dX7_lays_7 rfl ?_
  refine g_iload_n dX7_lays_8 rfl ?_
  refine g_iconst dX7_lays_9 ?_
  refine g_iadd dX7_lays_10 ?_
  refine g_eqI (((at1 + 1) : Nat) : Int) rfl ?_
  refine g_aload_n dX7_lays_11 rfl ?_
  refine g_getI dX7_lays_12 fl_X7_91 (x_vM hn (Nat.le_of_ble_eq_true rfl) (Nat.le_of_ble_eq_true rfl)) rfl rfl ?_
  refine g_iast (at1 + 1) dX7_lays_15 rfl (show (at1 + 1) < 416 by omega) (x_vM hn (Nat.le_of_ble_eq_true rfl) (Nat.le_of_ble_eq_true rfl)) rfl ?_
  refine g_aload_n dX7_lays_16 rfl ?_
  refine g_iload_n dX7_lays_17 rfl ?_
  refine g_iconst dX7_lays_18 ?_
  refine g_iadd dX7_lays_19 ?_
  refine g_eqI (((at1 + 2) : Nat) : Int) rfl ?_
  refine g_aload_n dX7_lays_20 rfl ?_
  refine g_getI dX7_lays_21 fl_X7_94 (x_vM hn (Nat.le_of_ble_eq_true rfl) (Nat.le_of_ble_eq_true rfl)) rfl rfl ?_
  refine g_iast (at1 + 2) dX7_lays_24 rfl (show (at1 + 2) < 416 by omega) (x_vM hn (Nat.le_of_ble_eq_true rfl) (Nat.le_of_ble_eq_true rfl)) rfl ?_
  refine g_aload_n dX7_lays_25 rfl ?_
  refine g_iload_n dX7_lays_26 rfl ?_
  refine g_bipush dX7_lays_27 (by decide) ?_
  refine g_iadd dX7_lays_29 ?_
  refine g_eqI (((at1 + 51) : Nat) : Int) rfl ?_
  refine g_aload_n dX7_lays_30 rfl ?_
  refine g_getI dX7_lays_31 fl_X7_97 (x_vM hn (Nat.le_of_ble_eq_true rfl) (Nat.le_of_ble_eq_true rfl)) rfl rfl ?_
  refine g_iast (at1 + 51) dX7_lays_34 rfl (show (at1 + 51) < 416 by omega) (x_vM hn (Nat.le_of_ble_eq_true rfl) (Nat.le_of_ble_eq_true rfl)) rfl ?_
  refine g_mem (T_X7_lays_42_1 σ at1) rfl ?_
  refine g_iconst dX7_lays_35 ?_
  refine g_istore_n (lv' := [_, _, _, _]) dX7_lays_36 (Nat.le_of_ble_eq_true rfl) rfl ?_
  refine g_sub (lv2 := [(3, xI ((0 : Nat) : Int)), _, _, _]) [0, 1, 2, 3] rfl ?_
  exact f_cv rfl rfl (lh_X7_lays_42_37 l n at1 hn hat1 ha1 6 0 _  (by omega) )

def T_X7_takes_42_37_1_1 (σ : xMi) (at1 : Nat) (p : Nat)  : xMi := (x_up (x_up (x_up σ 29 0 p (σ 42 0 ((at1 + 3) + p))) 30 0 p ((x_up σ 29 0 p (σ 42 0 ((at1 + 3) + p))) 42 0 ((at1 + 9) + p))) 31 0 p ((x_up (x_up σ 29 0 p (σ 42 0 ((at1 + 3) + p))) 30 0 p ((x_up σ 29 0 p (σ 42 0 ((at1 + 3) + p))) 42 0 ((at1 + 9) + p))) 42 0 ((at1 + 15) + p)))
def T_X7_takes_42_37_1_2 (σ : xMi) (at1 : Nat) (p : Nat)  : xMi := (x_up (x_up (x_up (T_X7_takes_42_37_1_1 σ at1 p ) 32 0 p ((T_X7_takes_42_37_1_1 σ at1 p ) 42 0 ((at1 + 21) + p))) 33 0 p ((x_up (T_X7_takes_42_37_1_1 σ at1 p ) 32 0 p ((T_X7_takes_42_37_1_1 σ at1 p ) 42 0 ((at1 + 21) + p))) 42 0 ((at1 + 27) + p))) 34 0 p ((x_up (x_up (T_X7_takes_42_37_1_1 σ at1 p ) 32 0 p ((T_X7_takes_42_37_1_1 σ at1 p ) 42 0 ((at1 + 21) + p))) 33 0 p ((x_up (T_X7_takes_42_37_1_1 σ at1 p ) 32 0 p ((T_X7_takes_42_37_1_1 σ at1 p ) 42 0 ((at1 + 21) + p))) 42 0 ((at1 + 27) + p))) 42 0 ((at1 + 33) + p)))
def RS_X7_takes_42_37 (at1 : Nat) : Nat → Nat → xMi → xMi
  | 0, p, σ => σ
  | k + 1, p, σ => (RS_X7_takes_42_37 at1 k (p + 1) (x_up (x_up (T_X7_takes_42_37_1_2 σ at1 p ) 35 0 p ((T_X7_takes_42_37_1_2 σ at1 p ) 42 0 ((at1 + 39) + p))) 36 0 p ((x_up (T_X7_takes_42_37_1_2 σ at1 p ) 35 0 p ((T_X7_takes_42_37_1_2 σ at1 p ) 42 0 ((at1 + 39) + p))) 42 0 ((at1 + 45) + p))) )
theorem fr_RS_X7_takes_42_37 (at1 : Nat) {t i k' : Nat} (h : ¬ ((t = 24 ∧ 5 ≤ k' ∧ k' ≤ 8) ∨ (29 ≤ t ∧ t ≤ 36))) : ∀ (k p : Nat) (σ : xMi) , RS_X7_takes_42_37 at1 k p σ  t i k' = σ t i k' := by
  intro k
  induction k with
  | zero =>
    intro p σ 
    simp only [RS_X7_takes_42_37]
    all_goals ((repeat' split) <;> simp (disch := first | omega | assumption) only [x_up_o, x_up_k, x_cp_o])
  | succ k ih =>
    intro p σ 
    simp only [RS_X7_takes_42_37]
    all_goals (repeat' split)
    all_goals (first | rw [ih] | skip)
    all_goals first | done | simp (disch := first | omega | assumption) only [x_up_o, x_up_k, x_cp_o, T_X7_takes_42_37_1_2, T_X7_takes_42_37_1_1]
theorem lh_X7_takes_42_37 (l : Launch) (n : Nat) (at1 : Nat) (hn : 154 ≤ n) (hat1 : at1 ≤ 1000000) (ha1 : at1 ≤ 364) : ∀ (k p : Nat) (σ : xMi) , p + k = 6 →  x_G l RX7 cX7_takes 4 none 0 n none (RS_X7_takes_42_37 at1 k p σ ) 37 [(3, xI (p : Int)), (0, xR 24 0), (1, xR 42 0), (2, xI (at1 : Int))] [] σ := by
  intro k
  induction k with
  | zero =>
    intro p σ  hk 
    refine g_iload_n dX7_takes_37 rfl ?_
    refine g_bipush dX7_takes_38 (by decide) ?_
    refine g_cmp_ge 160 dX7_takes_40 rfl (fun c_40 => ?_) (fun c_40 => absurd (by rw [show x_wr 6 = 6 from by decide, x_nat (by omega)]; omega) c_40)
    exact f_vret dX7_takes_160 rfl rfl
  | succ k ih =>
    intro p σ  hk 
    have hp : p < 6 := by omega
    refine g_iload_n dX7_takes_37 rfl ?_
    refine g_bipush dX7_takes_38 (by decide) ?_
    refine g_cmp_ge 160 dX7_takes_40 rfl (fun c_40 => absurd c_40 (by rw [show x_wr 6 = 6 from by decide, x_nat (by omega)]; omega)) (fun c_40 => ?_)
    refine g_aload_n dX7_takes_43 rfl ?_
    refine g_getR (t2 := 29) (i2 := 0) dX7_takes_44 fl_X7_22 (x_vM hn (Nat.le_of_ble_eq_true rfl) (Nat.le_of_ble_eq_true rfl)) rfl rfl rfl ?_
    refine g_iload_n dX7_takes_47 rfl ?_
    refine g_aload_n dX7_takes_48 rfl ?_
    refine g_iload_n dX7_takes_49 rfl ?_
    refine g_iconst dX7_takes_50 ?_
    refine g_iadd dX7_takes_51 ?_
    refine g_eqI (((at1 + 3) : Nat) : Int) rfl ?_
    refine g_iload_n dX7_takes_52 rfl ?_
    refine g_iadd dX7_takes_53 ?_
    refine g_eqI ((((at1 + 3) + p) : Nat) : Int) rfl ?_
    refine g_iald ((at1 + 3) + p) dX7_takes_54 rfl (show ((at1 + 3) + p) < 416 by omega) (x_vM hn (Nat.le_of_ble_eq_true rfl) (Nat.le_of_ble_eq_true rfl)) rfl ?_
    refine g_iast p dX7_takes_55 rfl hp (x_vM hn (Nat.le_of_ble_eq_true rfl) (Nat.le_of_ble_eq_true rfl)) rfl ?_
    refine g_aload_n dX7_takes_56 rfl ?_
    refine g_getR (t2 := 30) (i2 := 0) dX7_takes_57 fl_X7_25 (x_vM hn (Nat.le_of_ble_eq_true rfl) (Nat.le_of_ble_eq_true rfl)) rfl rfl rfl ?_
    refine g_iload_n dX7_takes_60 rfl ?_
    refine g_aload_n dX7_takes_61 rfl ?_
    refine g_iload_n dX7_takes_62 rfl ?_
    refine g_bipush dX7_takes_63 (by decide) ?_
    refine g_iadd dX7_takes_65 ?_
    refine g_eqI (((at1 + 9) : Nat) : Int) rfl ?_
    refine g_iload_n dX7_takes_66 rfl ?_
    refine g_iadd dX7_takes_67 ?_
    refine g_eqI ((((at1 + 9) + p) : Nat) : Int) rfl ?_
    refine g_iald ((at1 + 9) + p) dX7_takes_68 rfl (show ((at1 + 9) + p) < 416 by omega) (x_vM hn (Nat.le_of_ble_eq_true rfl) (Nat.le_of_ble_eq_true rfl)) rfl ?_
    refine g_iast p dX7_takes_69 rfl hp (x_vM hn (Nat.le_of_ble_eq_true rfl) (Nat.le_of_ble_eq_true rfl)) rfl ?_
    refine g_aload_n dX7_takes_70 rfl ?_
    refine g_getR (t2 := 31) (i2 := 0) dX7_takes_71 fl_X7_28 (x_vM hn (Nat.le_of_ble_eq_true rfl) (Nat.le_of_ble_eq_true rfl)) rfl rfl rfl ?_
    refine g_iload_n dX7_takes_74 rfl ?_
    refine g_aload_n dX7_takes_75 rfl ?_
    refine g_iload_n dX7_takes_76 rfl ?_
    refine g_bipush dX7_takes_77 (by decide) ?_
    refine g_iadd dX7_takes_79 ?_
    refine g_eqI (((at1 + 15) : Nat) : Int) rfl ?_
    refine g_iload_n dX7_takes_80 rfl ?_
    refine g_iadd dX7_takes_81 ?_
    refine g_eqI ((((at1 + 15) + p) : Nat) : Int) rfl ?_
    refine g_iald ((at1 + 15) + p) dX7_takes_82 rfl (show ((at1 + 15) + p) < 416 by omega) (x_vM hn (Nat.le_of_ble_eq_true rfl) (Nat.le_of_ble_eq_true rfl)) rfl ?_
    refine g_iast p dX7_takes_83 rfl hp (x_vM hn (Nat.le_of_ble_eq_true rfl) (Nat.le_of_ble_eq_true rfl)) rfl ?_
    refine g_mem (T_X7_takes_42_37_1_1 σ at1 p ) rfl ?_
    refine g_aload_n dX7_takes_84 rfl ?_
    refine g_getR (t2 := 32) (i2 := 0) dX7_takes_85 fl_X7_31 (x_vM hn (Nat.le_of_ble_eq_true rfl) (Nat.le_of_ble_eq_true rfl)) rfl rfl rfl ?_
    refine g_iload_n dX7_takes_88 rfl ?_
    refine g_aload_n dX7_takes_89 rfl ?_
    refine g_iload_n dX7_takes_90 rfl ?_
    refine g_bipush dX7_takes_91 (by decide) ?_
    refine g_iadd dX7_takes_93 ?_
    refine g_eqI (((at1 + 21) : Nat) : Int) rfl ?_
    refine g_iload_n dX7_takes_94 rfl ?_
    refine g_iadd dX7_takes_95 ?_
    refine g_eqI ((((at1 + 21) + p) : Nat) : Int) rfl ?_
    refine g_iald ((at1 + 21) + p) dX7_takes_96 rfl (show ((at1 + 21) + p) < 416 by omega) (x_vM hn (Nat.le_of_ble_eq_true rfl) (Nat.le_of_ble_eq_true rfl)) rfl ?_
    refine g_iast p dX7_takes_97 rfl hp (x_vM hn (Nat.le_of_ble_eq_true rfl) (Nat.le_of_ble_eq_true rfl)) rfl ?_
    refine g_aload_n dX7_takes_98 rfl ?_
    refine g_getR (t2 := 33) (i2 := 0) dX7_takes_99 fl_X7_34 (x_vM hn (Nat.le_of_ble_eq_true rfl) (Nat.le_of_ble_eq_true rfl)) rfl rfl rfl ?_
    refine g_iload_n dX7_takes_102 rfl ?_
    refine g_aload_n dX7_takes_103 rfl ?_
    refine g_iload_n dX7_takes_104 rfl ?_
    refine g_bipush dX7_takes_105 (by decide) ?_
    refine g_iadd dX7_takes_107 ?_
    refine g_eqI (((at1 + 27) : Nat) : Int) rfl ?_
    refine g_iload_n dX7_takes_108 rfl ?_
    refine g_iadd dX7_takes_109 ?_
    refine g_eqI ((((at1 + 27) + p) : Nat) : Int) rfl ?_
    refine g_iald ((at1 + 27) + p) dX7_takes_110 rfl (show ((at1 + 27) + p) < 416 by omega) (x_vM hn (Nat.le_of_ble_eq_true rfl) (Nat.le_of_ble_eq_true rfl)) rfl ?_
    refine g_iast p dX7_takes_111 rfl hp (x_vM hn (Nat.le_of_ble_eq_true rfl) (Nat.le_of_ble_eq_true rfl)) rfl ?_
    refine g_aload_n dX7_takes_112 rfl ?_
    refine g_getR (t2 := 34) (i2 := 0) dX7_takes_113 fl_X7_37 (x_vM hn (Nat.le_of_ble_eq_true rfl) (Nat.le_of_ble_eq_true rfl)) rfl rfl rfl ?_
    refine g_iload_n dX7_takes_116 rfl ?_
    refine g_aload_n dX7_takes_117 rfl ?_
    refine g_iload_n dX7_takes_118 rfl ?_
    refine g_bipush dX7_takes_119 (by decide) ?_
    refine g_iadd dX7_takes_121 ?_
    refine g_eqI (((at1 + 33) : Nat) : Int) rfl ?_
    refine g_iload_n dX7_takes_122 rfl ?_
    refine g_iadd dX7_takes_123 ?_
    refine g_eqI ((((at1 + 33) + p) : Nat) : Int) rfl ?_
    refine g_iald ((at1 + 33) + p) dX7_takes_124 rfl (show ((at1 + 33) + p) < 416 by omega) (x_vM hn (Nat.le_of_ble_eq_true rfl) (Nat.le_of_ble_eq_true rfl)) rfl ?_
    refine g_iast p dX7_takes_125 rfl hp (x_vM hn (Nat.le_of_ble_eq_true rfl) (Nat.le_of_ble_eq_true rfl)) rfl ?_
    refine g_mem (T_X7_takes_42_37_1_2 σ at1 p ) rfl ?_
    refine g_aload_n dX7_takes_126 rfl ?_
    refine g_getR (t2 := 35) (i2 := 0) dX7_takes_127 fl_X7_40 (x_vM hn (Nat.le_of_ble_eq_true rfl) (Nat.le_of_ble_eq_true rfl)) rfl rfl rfl ?_
    refine g_iload_n dX7_takes_130 rfl ?_
    refine g_aload_n dX7_takes_131 rfl ?_
    refine g_iload_n dX7_takes_132 rfl ?_
    refine g_bipush dX7_takes_133 (by decide) ?_
    refine g_iadd dX7_takes_135 ?_
    refine g_eqI (((at1 + 39) : Nat) : Int) rfl ?_
    refine g_iload_n dX7_takes_136 rfl ?_
    refine g_iadd dX7_takes_137 ?_
    refine g_eqI ((((at1 + 39) + p) : Nat) : Int) rfl ?_
    refine g_iald ((at1 + 39) + p) dX7_takes_138 rfl (show ((at1 + 39) + p) < 416 by omega) (x_vM hn (Nat.le_of_ble_eq_true rfl) (Nat.le_of_ble_eq_true rfl)) rfl ?_
    refine g_iast p dX7_takes_139 rfl hp (x_vM hn (Nat.le_of_ble_eq_true rfl) (Nat.le_of_ble_eq_true rfl)) rfl ?_
    refine g_aload_n dX7_takes_140 rfl ?_
    refine g_getR (t2 := 36) (i2 := 0) dX7_takes_141 fl_X7_43 (x_vM hn (Nat.le_of_ble_eq_true rfl) (Nat.le_of_ble_eq_true rfl)) rfl rfl rfl ?_
    refine g_iload_n dX7_takes_144 rfl ?_
    refine g_aload_n dX7_takes_145 rfl ?_
    refine g_iload_n dX7_takes_146 rfl ?_
    refine g_bipush dX7_takes_147 (by decide) ?_
    refine g_iadd dX7_takes_149 ?_
    refine g_eqI (((at1 + 45) : Nat) : Int) rfl ?_
    refine g_iload_n dX7_takes_150 rfl ?_
    refine g_iadd dX7_takes_151 ?_
    refine g_eqI ((((at1 + 45) + p) : Nat) : Int) rfl ?_
    refine g_iald ((at1 + 45) + p) dX7_takes_152 rfl (show ((at1 + 45) + p) < 416 by omega) (x_vM hn (Nat.le_of_ble_eq_true rfl) (Nat.le_of_ble_eq_true rfl)) rfl ?_
    refine g_iast p dX7_takes_153 rfl hp (x_vM hn (Nat.le_of_ble_eq_true rfl) (Nat.le_of_ble_eq_true rfl)) rfl ?_
    refine g_iinc (lv' := [(3, xI (((p + 1) : Nat) : Int)), _, _, _]) dX7_takes_154 (Nat.le_of_ble_eq_true rfl) rfl rfl ?_
    refine g_goto 37 dX7_takes_157 rfl ?_
    refine g_sub (lv2 := [(3, xI (((p + 1) : Nat) : Int)), _, _, _]) [0, 1, 2, 3] rfl ?_
    exact f_cv rfl rfl (ih (p + 1) _  (by omega) )
def T_X7_takes_42_1 (σ : xMi) (at1 : Nat) : xMi := (x_up (x_up (x_up (x_up σ 24 0 5 (σ 42 0 at1)) 24 0 6 ((x_up σ 24 0 5 (σ 42 0 at1)) 42 0 (at1 + 1))) 24 0 7 ((x_up (x_up σ 24 0 5 (σ 42 0 at1)) 24 0 6 ((x_up σ 24 0 5 (σ 42 0 at1)) 42 0 (at1 + 1))) 42 0 (at1 + 2))) 24 0 8 ((x_up (x_up (x_up σ 24 0 5 (σ 42 0 at1)) 24 0 6 ((x_up σ 24 0 5 (σ 42 0 at1)) 42 0 (at1 + 1))) 24 0 7 ((x_up (x_up σ 24 0 5 (σ 42 0 at1)) 24 0 6 ((x_up σ 24 0 5 (σ 42 0 at1)) 42 0 (at1 + 1))) 42 0 (at1 + 2))) 42 0 (at1 + 51)))
def S_X7_takes_42 (σ : xMi) (at1 : Nat) : xMi := (RS_X7_takes_42_37 at1 6 0 (T_X7_takes_42_1 σ at1) )
theorem fr_S_X7_takes_42 (σ : xMi) (at1 : Nat) {t i k : Nat} (h : ¬ ((t = 24 ∧ 5 ≤ k ∧ k ≤ 8) ∨ (29 ≤ t ∧ t ≤ 36))) : S_X7_takes_42 σ at1 t i k = σ t i k := by
  unfold S_X7_takes_42
  all_goals ((repeat' split) <;> first | rfl | simp (disch := first | omega | assumption) only [x_up_o, x_up_k, x_cp_o, T_X7_takes_42_1, fr_RS_X7_takes_42_37])
theorem c_X7_takes_42 (l : Launch) (n : Nat) (σ : xMi) (at1 : Nat) (hn : 154 ≤ n) (hat1 : at1 ≤ 1000000) (ha1 : at1 ≤ 364)  : x_F l yX7_takes RX7 cX7_takes 4 none 0 n σ [xR 24 0, xR 42 0, xI (at1 : Int)] none (S_X7_takes_42 σ at1) := by
  refine f_of (by decide) rfl (Nat.le_of_ble_eq_true rfl) rfl ?_
  refine g_aload_n dX7_takes_0 rfl ?_
  refine g_aload_n dX7_takes_1 rfl ?_
  refine g_iload_n dX7_takes_2 rfl ?_
  refine g_iald at1 dX7_takes_3 rfl (show at1 < 416 by omega) (x_vM hn (Nat.le_of_ble_eq_true rfl) (Nat.le_of_ble_eq_true rfl)) rfl ?_
  refine g_putI dX7_takes_4 fl_X7_88 (x_vM hn (Nat.le_of_ble_eq_true rfl) (Nat.le_of_ble_eq_true rfl)) rfl rfl ?_
  refine g_aload_n dX7_takes_7 rfl ?_
  refine g_aload_n dX7_takes_8 rfl ?_
  refine g_iload_n dX7_takes_9 rfl ?_
  refine g_iconst dX7_takes_10 ?_
  refine g_iadd dX7_takes_11 ?_
  refine g_eqI (((at1 + 1) : Nat) : Int) rfl ?_
  refine g_iald (at1 + 1) dX7_takes_12 rfl (show (at1 + 1) < 416 by omega) (x_vM hn (Nat.le_of_ble_eq_true rfl) (Nat.le_of_ble_eq_true rfl)) rfl ?_
  refine g_putI dX7_takes_13 fl_X7_91 (x_vM hn (Nat.le_of_ble_eq_true rfl) (Nat.le_of_ble_eq_true rfl)) rfl rfl ?_
  refine g_aload_n dX7_takes_16 rfl ?_
  refine g_aload_n dX7_takes_17 rfl ?_
  refine g_iload_n dX7_takes_18 rfl ?_
  refine g_iconst dX7_takes_19 ?_
  refine g_iadd dX7_takes_20 ?_
  refine g_eqI (((at1 + 2) : Nat) : Int) rfl ?_
  refine g_iald (at1 + 2) dX7_takes_21 rfl (show (at1 + 2) < 416 by omega) (x_vM hn (Nat.le_of_ble_eq_true rfl) (Nat.le_of_ble_eq_true rfl)) rfl ?_
  refine g_putI dX7_takes_22 fl_X7_94 (x_vM hn (Nat.le_of_ble_eq_true rfl) (Nat.le_of_ble_eq_true rfl)) rfl rfl ?_
  refine g_aload_n dX7_takes_25 rfl ?_
  refine g_aload_n dX7_takes_26 rfl ?_
  refine g_iload_n dX7_takes_27 rfl ?_
  refine g_bipush dX7_takes_28 (by decide) ?_
  refine g_iadd dX7_takes_30 ?_
  refine g_eqI (((at1 + 51) : Nat) : Int) rfl ?_
  refine g_iald (at1 + 51) dX7_takes_31 rfl (show (at1 + 51) < 416 by omega) (x_vM hn (Nat.le_of_ble_eq_true rfl) (Nat.le_of_ble_eq_true rfl)) rfl ?_
  refine g_putI dX7_takes_32 fl_X7_97 (x_vM hn (Nat.le_of_ble_eq_true rfl) (Nat.le_of_ble_eq_true rfl)) rfl rfl ?_
  refine g_mem (T_X7_takes_42_1 σ at1) rfl ?_
  refine g_iconst dX7_takes_35 ?_
  refine g_istore_n (lv' := [_, _, _, _]) dX7_takes_36 (Nat.le_of_ble_eq_true rfl) rfl ?_
  refine g_sub (lv2 := [(3, xI ((0 : Nat) : Int)), _, _, _]) [0, 1, 2, 3] rfl ?_
  exact f_cv rfl rfl (lh_X7_takes_42_37 l n at1 hn hat1 ha1 6 0 _  (by omega) )

def T_X7_lays_43_37_1_1 (σ : xMi) (at1 : Nat) (p : Nat)  : xMi := (x_up (x_up (x_up σ 43 0 ((at1 + 3) + p) (σ 29 0 p)) 43 0 ((at1 + 9) + p) ((x_up σ 43 0 ((at1 + 3) + p) (σ 29 0 p)) 30 0 p)) 43 0 ((at1 + 15) + p) ((x_up (x_up σ 43 0 ((at1 + 3) + p) (σ 29 0 p)) 43 0 ((at1 + 9) + p) ((x_up σ 43 0 ((at1 + 3) + p) (σ 29 0 p)) 30 0 p)) 31 0 p))
def T_X7_lays_43_37_1_2 (σ : xMi) (at1 : Nat) (p : Nat)  : xMi := (x_up (x_up (x_up (T_X7_lays_43_37_1_1 σ at1 p ) 43 0 ((at1 + 21) + p) ((T_X7_lays_43_37_1_1 σ at1 p ) 32 0 p)) 43 0 ((at1 + 27) + p) ((x_up (T_X7_lays_43_37_1_1 σ at1 p ) 43 0 ((at1 + 21) + p) ((T_X7_lays_43_37_1_1 σ at1 p ) 32 0 p)) 33 0 p)) 43 0 ((at1 + 33) + p) ((x_up (x_up (T_X7_lays_43_37_1_1 σ at1 p ) 43 0 ((at1 + 21) + p) ((T_X7_lays_43_37_1_1 σ at1 p ) 32 0 p)) 43 0 ((at1 + 27) + p) ((x_up (T_X7_lays_43_37_1_1 σ at1 p ) 43 0 ((at1 + 21) + p) ((T_X7_lays_43_37_1_1 σ at1 p ) 32 0 p)) 33 0 p)) 34 0 p))
def RS_X7_lays_43_37 (at1 : Nat) : Nat → Nat → xMi → xMi
  | 0, p, σ => σ
  | k + 1, p, σ => (RS_X7_lays_43_37 at1 k (p + 1) (x_up (x_up (T_X7_lays_43_37_1_2 σ at1 p ) 43 0 ((at1 + 39) + p) ((T_X7_lays_43_37_1_2 σ at1 p ) 35 0 p)) 43 0 ((at1 + 45) + p) ((x_up (T_X7_lays_43_37_1_2 σ at1 p ) 43 0 ((at1 + 39) + p) ((T_X7_lays_43_37_1_2 σ at1 p ) 35 0 p)) 36 0 p)) )
theorem fr_RS_X7_lays_43_37 (at1 : Nat) {t i k' : Nat} (h : ¬ (t = 43)) : ∀ (k p : Nat) (σ : xMi) , RS_X7_lays_43_37 at1 k p σ  t i k' = σ t i k' := by
  intro k
  induction k with
  | zero =>
    intro p σ 
    simp only [RS_X7_lays_43_37]
    all_goals ((repeat' split) <;> simp (disch := first | omega | assumption) only [x_up_o, x_up_k, x_cp_o])
  | succ k ih =>
    intro p σ 
    simp only [RS_X7_lays_43_37]
    all_goals (repeat' split)
    all_goals (first | rw [ih] | skip)
    all_goals first | done | simp (disch := first | omega | assumption) only [x_up_o, x_up_k, x_cp_o, T_X7_lays_43_37_1_2, T_X7_lays_43_37_1_1]
theorem lh_X7_lays_43_37 (l : Launch) (n : Nat) (at1 : Nat) (hn : 154 ≤ n) (hat1 : at1 ≤ 1000000) (ha1 : at1 ≤ 0) : ∀ (k p : Nat) (σ : xMi) , p + k = 6 →  x_G l RX7 cX7_lays 4 none 0 n none (RS_X7_lays_43_37 at1 k p σ ) 37 [(3, xI (p : Int)), (0, xR 24 0), (1, xR 43 0), (2, xI (at1 : Int))] [] σ := by
  intro k
  induction k with
  | zero =>
    intro p σ  hk 
    refine g_iload_n dX7_lays_37 rfl ?_
    refine g_bipush dX7_lays_38 (by decide) ?_
    refine g_cmp_ge 160 dX7_lays_40 rfl (fun c_40 => ?_) (fun c_40 => absurd (by rw [show x_wr 6 = 6 from by decide, x_nat (by omega)]; omega) c_40)
    exact f_vret dX7_lays_160 rfl rfl
  | succ k ih =>
    intro p σ  hk 
    have hp : p < 6 := by omega
    refine g_iload_n dX7_lays_37 rfl ?_
    refine g_bipush dX7_lays_38 (by decide) ?_
    refine g_cmp_ge 160 dX7_lays_40 rfl (fun c_40 => absurd c_40 (by rw [show x_wr 6 = 6 from by decide, x_nat (by omega)]; omega)) (fun c_40 => ?_)
    refine g_aload_n dX7_lays_43 rfl ?_
    refine g_iload_n dX7_lays_44 rfl ?_
    refine g_iconst dX7_lays_45 ?_
    refine g_iadd dX7_lays_46 ?_
    refine g_eqI (((at1 + 3) : Nat) : Int) rfl ?_
    refine g_iload_n dX7_lays_47 rfl ?_
    refine g_iadd dX7_lays_48 ?_
    refine g_eqI ((((at1 + 3) + p) : Nat) : Int) rfl ?_
    refine g_aload_n dX7_lays_49 rfl ?_
    refine g_getR (t2 := 29) (i2 := 0) dX7_lays_50 fl_X7_22 (x_vM hn (Nat.le_of_ble_eq_true rfl) (Nat.le_of_ble_eq_true rfl)) rfl rfl rfl ?_
    refine g_iload_n dX7_lays_53 rfl ?_
    refine g_iald p dX7_lays_54 rfl hp (x_vM hn (Nat.le_of_ble_eq_true rfl) (Nat.le_of_ble_eq_true rfl)) rfl ?_
    refine g_iast ((at1 + 3) + p) dX7_lays_55 rfl (show ((at1 + 3) + p) < 52 by omega) (x_vM hn (Nat.le_of_ble_eq_true rfl) (Nat.le_of_ble_eq_true rfl)) rfl ?_
    refine g_aload_n dX7_lays_56 rfl ?_
    refine g_iload_n dX7_lays_57 rfl ?_
    refine g_bipush dX7_lays_58 (by decide) ?_
    refine g_iadd dX7_lays_60 ?_
    refine g_eqI (((at1 + 9) : Nat) : Int) rfl ?_
    refine g_iload_n dX7_lays_61 rfl ?_
    refine g_iadd dX7_lays_62 ?_
    refine g_eqI ((((at1 + 9) + p) : Nat) : Int) rfl ?_
    refine g_aload_n dX7_lays_63 rfl ?_
    refine g_getR (t2 := 30) (i2 := 0) dX7_lays_64 fl_X7_25 (x_vM hn (Nat.le_of_ble_eq_true rfl) (Nat.le_of_ble_eq_true rfl)) rfl rfl rfl ?_
    refine g_iload_n dX7_lays_67 rfl ?_
    refine g_iald p dX7_lays_68 rfl hp (x_vM hn (Nat.le_of_ble_eq_true rfl) (Nat.le_of_ble_eq_true rfl)) rfl ?_
    refine g_iast ((at1 + 9) + p) dX7_lays_69 rfl (show ((at1 + 9) + p) < 52 by omega) (x_vM hn (Nat.le_of_ble_eq_true rfl) (Nat.le_of_ble_eq_true rfl)) rfl ?_
    refine g_aload_n dX7_lays_70 rfl ?_
    refine g_iload_n dX7_lays_71 rfl ?_
    refine g_bipush dX7_lays_72 (by decide) ?_
    refine g_iadd dX7_lays_74 ?_
    refine g_eqI (((at1 + 15) : Nat) : Int) rfl ?_
    refine g_iload_n dX7_lays_75 rfl ?_
    refine g_iadd dX7_lays_76 ?_
    refine g_eqI ((((at1 + 15) + p) : Nat) : Int) rfl ?_
    refine g_aload_n dX7_lays_77 rfl ?_
    refine g_getR (t2 := 31) (i2 := 0) dX7_lays_78 fl_X7_28 (x_vM hn (Nat.le_of_ble_eq_true rfl) (Nat.le_of_ble_eq_true rfl)) rfl rfl rfl ?_
    refine g_iload_n dX7_lays_81 rfl ?_
    refine g_iald p dX7_lays_82 rfl hp (x_vM hn (Nat.le_of_ble_eq_true rfl) (Nat.le_of_ble_eq_true rfl)) rfl ?_
    refine g_iast ((at1 + 15) + p) dX7_lays_83 rfl (show ((at1 + 15) + p) < 52 by omega) (x_vM hn (Nat.le_of_ble_eq_true rfl) (Nat.le_of_ble_eq_true rfl)) rfl ?_
    refine g_mem (T_X7_lays_43_37_1_1 σ at1 p ) rfl ?_
    refine g_aload_n dX7_lays_84 rfl ?_
    refine g_iload_n dX7_lays_85 rfl ?_
    refine g_bipush dX7_lays_86 (by decide) ?_
    refine g_iadd dX7_lays_88 ?_
    refine g_eqI (((at1 + 21) : Nat) : Int) rfl ?_
    refine g_iload_n dX7_lays_89 rfl ?_
    refine g_iadd dX7_lays_90 ?_
    refine g_eqI ((((at1 + 21) + p) : Nat) : Int) rfl ?_
    refine g_aload_n dX7_lays_91 rfl ?_
    refine g_getR (t2 := 32) (i2 := 0) dX7_lays_92 fl_X7_31 (x_vM hn (Nat.le_of_ble_eq_true rfl) (Nat.le_of_ble_eq_true rfl)) rfl rfl rfl ?_
    refine g_iload_n dX7_lays_95 rfl ?_
    refine g_iald p dX7_lays_96 rfl hp (x_vM hn (Nat.le_of_ble_eq_true rfl) (Nat.le_of_ble_eq_true rfl)) rfl ?_
    refine g_iast ((at1 + 21) + p) dX7_lays_97 rfl (show ((at1 + 21) + p) < 52 by omega) (x_vM hn (Nat.le_of_ble_eq_true rfl) (Nat.le_of_ble_eq_true rfl)) rfl ?_
    refine g_aload_n dX7_lays_98 rfl ?_
    refine g_iload_n dX7_lays_99 rfl ?_
    refine g_bipush dX7_lays_100 (by decide) ?_
    refine g_iadd dX7_lays_102 ?_
    refine g_eqI (((at1 + 27) : Nat) : Int) rfl ?_
    refine g_iload_n dX7_lays_103 rfl ?_
    refine g_iadd dX7_lays_104 ?_
    refine g_eqI ((((at1 + 27) + p) : Nat) : Int) rfl ?_
    refine g_aload_n dX7_lays_105 rfl ?_
    refine g_getR (t2 := 33) (i2 := 0) dX7_lays_106 fl_X7_34 (x_vM hn (Nat.le_of_ble_eq_true rfl) (Nat.le_of_ble_eq_true rfl)) rfl rfl rfl ?_
    refine g_iload_n dX7_lays_109 rfl ?_
    refine g_iald p dX7_lays_110 rfl hp (x_vM hn (Nat.le_of_ble_eq_true rfl) (Nat.le_of_ble_eq_true rfl)) rfl ?_
    refine g_iast ((at1 + 27) + p) dX7_lays_111 rfl (show ((at1 + 27) + p) < 52 by omega) (x_vM hn (Nat.le_of_ble_eq_true rfl) (Nat.le_of_ble_eq_true rfl)) rfl ?_
    refine g_aload_n dX7_lays_112 rfl ?_
    refine g_iload_n dX7_lays_113 rfl ?_
    refine g_bipush dX7_lays_114 (by decide) ?_
    refine g_iadd dX7_lays_116 ?_
    refine g_eqI (((at1 + 33) : Nat) : Int) rfl ?_
    refine g_iload_n dX7_lays_117 rfl ?_
    refine g_iadd dX7_lays_118 ?_
    refine g_eqI ((((at1 + 33) + p) : Nat) : Int) rfl ?_
    refine g_aload_n dX7_lays_119 rfl ?_
    refine g_getR (t2 := 34) (i2 := 0) dX7_lays_120 fl_X7_37 (x_vM hn (Nat.le_of_ble_eq_true rfl) (Nat.le_of_ble_eq_true rfl)) rfl rfl rfl ?_
    refine g_iload_n dX7_lays_123 rfl ?_
    refine g_iald p dX7_lays_124 rfl hp (x_vM hn (Nat.le_of_ble_eq_true rfl) (Nat.le_of_ble_eq_true rfl)) rfl ?_
    refine g_iast ((at1 + 33) + p) dX7_lays_125 rfl (show ((at1 + 33) + p) < 52 by omega) (x_vM hn (Nat.le_of_ble_eq_true rfl) (Nat.le_of_ble_eq_true rfl)) rfl ?_
    refine g_mem (T_X7_lays_43_37_1_2 σ at1 p ) rfl ?_
    refine g_aload_n dX7_lays_126 rfl ?_
    refine g_iload_n dX7_lays_127 rfl ?_
    refine g_bipush dX7_lays_128 (by decide) ?_
    refine g_iadd dX7_lays_130 ?_
    refine g_eqI (((at1 + 39) : Nat) : Int) rfl ?_
    refine g_iload_n dX7_lays_131 rfl ?_
    refine g_iadd dX7_lays_132 ?_
    refine g_eqI ((((at1 + 39) + p) : Nat) : Int) rfl ?_
    refine g_aload_n dX7_lays_133 rfl ?_
    refine g_getR (t2 := 35) (i2 := 0) dX7_lays_134 fl_X7_40 (x_vM hn (Nat.le_of_ble_eq_true rfl) (Nat.le_of_ble_eq_true rfl)) rfl rfl rfl ?_
    refine g_iload_n dX7_lays_137 rfl ?_
    refine g_iald p dX7_lays_138 rfl hp (x_vM hn (Nat.le_of_ble_eq_true rfl) (Nat.le_of_ble_eq_true rfl)) rfl ?_
    refine g_iast ((at1 + 39) + p) dX7_lays_139 rfl (show ((at1 + 39) + p) < 52 by omega) (x_vM hn (Nat.le_of_ble_eq_true rfl) (Nat.le_of_ble_eq_true rfl)) rfl ?_
    refine g_aload_n dX7_lays_140 rfl ?_
    refine g_iload_n dX7_lays_141 rfl ?_
    refine g_bipush dX7_lays_142 (by decide) ?_
    refine g_iadd dX7_lays_144 ?_
    refine g_eqI (((at1 + 45) : Nat) : Int) rfl ?_
    refine g_iload_n dX7_lays_145 rfl ?_
    refine g_iadd dX7_lays_146 ?_
    refine g_eqI ((((at1 + 45) + p) : Nat) : Int) rfl ?_
    refine g_aload_n dX7_lays_147 rfl ?_
    refine g_getR (t2 := 36) (i2 := 0) dX7_lays_148 fl_X7_43 (x_vM hn (Nat.le_of_ble_eq_true rfl) (Nat.le_of_ble_eq_true rfl)) rfl rfl rfl ?_
    refine g_iload_n dX7_lays_151 rfl ?_
    refine g_iald p dX7_lays_152 rfl hp (x_vM hn (Nat.le_of_ble_eq_true rfl) (Nat.le_of_ble_eq_true rfl)) rfl ?_
    refine g_iast ((at1 + 45) + p) dX7_lays_153 rfl (show ((at1 + 45) + p) < 52 by omega) (x_vM hn (Nat.le_of_ble_eq_true rfl) (Nat.le_of_ble_eq_true rfl)) rfl ?_
    refine g_iinc (lv' := [(3, xI (((p + 1) : Nat) : Int)), _, _, _]) dX7_lays_154 (Nat.le_of_ble_eq_true rfl) rfl rfl ?_
    refine g_goto 37 dX7_lays_157 rfl ?_
    refine g_sub (lv2 := [(3, xI (((p + 1) : Nat) : Int)), _, _, _]) [0, 1, 2, 3] rfl ?_
    exact f_cv rfl rfl (ih (p + 1) _  (by omega) )
def T_X7_lays_43_1 (σ : xMi) (at1 : Nat) : xMi := (x_up (x_up (x_up (x_up σ 43 0 at1 (σ 24 0 5)) 43 0 (at1 + 1) ((x_up σ 43 0 at1 (σ 24 0 5)) 24 0 6)) 43 0 (at1 + 2) ((x_up (x_up σ 43 0 at1 (σ 24 0 5)) 43 0 (at1 + 1) ((x_up σ 43 0 at1 (σ 24 0 5)) 24 0 6)) 24 0 7)) 43 0 (at1 + 51) ((x_up (x_up (x_up σ 43 0 at1 (σ 24 0 5)) 43 0 (at1 + 1) ((x_up σ 43 0 at1 (σ 24 0 5)) 24 0 6)) 43 0 (at1 + 2) ((x_up (x_up σ 43 0 at1 (σ 24 0 5)) 43 0 (at1 + 1) ((x_up σ 43 0 at1 (σ 24 0 5)) 24 0 6)) 24 0 7)) 24 0 8))
def S_X7_lays_43 (σ : xMi) (at1 : Nat) : xMi := (RS_X7_lays_43_37 at1 6 0 (T_X7_lays_43_1 σ at1) )
theorem fr_S_X7_lays_43 (σ : xMi) (at1 : Nat) {t i k : Nat} (h : ¬ (t = 43)) : S_X7_lays_43 σ at1 t i k = σ t i k := by
  unfold S_X7_lays_43
  all_goals ((repeat' split) <;> first | rfl | simp (disch := first | omega | assumption) only [x_up_o, x_up_k, x_cp_o, T_X7_lays_43_1, fr_RS_X7_lays_43_37])
theorem c_X7_lays_43 (l : Launch) (n : Nat) (σ : xMi) (at1 : Nat) (hn : 154 ≤ n) (hat1 : at1 ≤ 1000000) (ha1 : at1 ≤ 0)  : x_F l yX7_lays RX7 cX7_lays 4 none 0 n σ [xR 24 0, xR 43 0, xI (at1 : Int)] none (S_X7_lays_43 σ at1) := by
  refine f_of (by decide) rfl (Nat.le_of_ble_eq_true rfl) rfl ?_
  refine g_aload_n dX7_lays_0 rfl ?_
  refine g_iload_n dX7_lays_1 rfl ?_
  refine g_aload_n dX7_lays_2 rfl ?_
  refine g_getI dX7_lays_3 fl_X7_88 (x_vM hn (Nat.le_of_ble_eq_true rfl) (Nat.le_of_ble_eq_true rfl)) rfl rfl ?_
  refine g_iast at1 dX7_lays_6 rfl (show at1 < 52 by omega) (x_vM hn (Nat.le_of_ble_eq_true rfl) (Nat.le_of_ble_eq_true rfl)) rfl ?_
  refine g_aload_n dX7_lays_7 rfl ?_
  refine g_iload_n dX7_lays_8 rfl ?_
  refine g_iconst dX7_lays_9 ?_
  refine g_iadd dX7_lays_10 ?_
  refine g_eqI (((at1 + 1) : Nat) : Int) rfl ?_
  refine g_aload_n dX7_lays_11 rfl ?_
  refine g_getI dX7_lays_12 fl_X7_91 (x_vM hn (Nat.le_of_ble_eq_true rfl) (Nat.le_of_ble_eq_true rfl)) rfl rfl ?_
  refine g_iast (at1 + 1) dX7_lays_15 rfl (show (at1 + 1) < 52 by omega) (x_vM hn (Nat.le_of_ble_eq_true rfl) (Nat.le_of_ble_eq_true rfl)) rfl ?_
  refine g_aload_n dX7_lays_16 rfl ?_
  refine g_iload_n dX7_lays_17 rfl ?_
  refine g_iconst dX7_lays_18 ?_
  refine g_iadd dX7_lays_19 ?_
  refine g_eqI (((at1 + 2) : Nat) : Int) rfl ?_
  refine g_aload_n dX7_lays_20 rfl ?_
  refine g_getI dX7_lays_21 fl_X7_94 (x_vM hn (Nat.le_of_ble_eq_true rfl) (Nat.le_of_ble_eq_true rfl)) rfl rfl ?_
  refine g_iast (at1 + 2) dX7_lays_24 rfl (show (at1 + 2) < 52 by omega) (x_vM hn (Nat.le_of_ble_eq_true rfl) (Nat.le_of_ble_eq_true rfl)) rfl ?_
  refine g_aload_n dX7_lays_25 rfl ?_
  refine g_iload_n dX7_lays_26 rfl ?_
  refine g_bipush dX7_lays_27 (by decide) ?_
  refine g_iadd dX7_lays_29 ?_
  refine g_eqI (((at1 + 51) : Nat) : Int) rfl ?_
  refine g_aload_n dX7_lays_30 rfl ?_
  refine g_getI dX7_lays_31 fl_X7_97 (x_vM hn (Nat.le_of_ble_eq_true rfl) (Nat.le_of_ble_eq_true rfl)) rfl rfl ?_
  refine g_iast (at1 + 51) dX7_lays_34 rfl (show (at1 + 51) < 52 by omega) (x_vM hn (Nat.le_of_ble_eq_true rfl) (Nat.le_of_ble_eq_true rfl)) rfl ?_
  refine g_mem (T_X7_lays_43_1 σ at1) rfl ?_
  refine g_iconst dX7_lays_35 ?_
  refine g_istore_n (lv' := [_, _, _, _]) dX7_lays_36 (Nat.le_of_ble_eq_true rfl) rfl ?_
  refine g_sub (lv2 := [(3, xI ((0 : Nat) : Int)), _, _, _]) [0, 1, 2, 3] rfl ?_
  exact f_cv rfl rfl (lh_X7_lays_43_37 l n at1 hn hat1 ha1 6 0 _  (by omega) )

def T_X7_takes_43_37_1_1 (σ : xMi) (at1 : Nat) (p : Nat)  : xMi := (x_up (x_up (x_up σ 29 0 p (σ 43 0 ((at1 + 3) + p))) 30 0 p ((x_up σ 29 0 p (σ 43 0 ((at1 + 3) + p))) 43 0 ((at1 + 9) + p))) 31 0 p ((x_up (x_up σ 29 0 p (σ 43 0 ((at1 + 3) + p))) 30 0 p ((x_up σ 29 0 p (σ 43 0 ((at1 + 3) + p))) 43 0 ((at1 + 9) + p))) 43 0 ((at1 + 15) + p)))
def T_X7_takes_43_37_1_2 (σ : xMi) (at1 : Nat) (p : Nat)  : xMi := (x_up (x_up (x_up (T_X7_takes_43_37_1_1 σ at1 p ) 32 0 p ((T_X7_takes_43_37_1_1 σ at1 p ) 43 0 ((at1 + 21) + p))) 33 0 p ((x_up (T_X7_takes_43_37_1_1 σ at1 p ) 32 0 p ((T_X7_takes_43_37_1_1 σ at1 p ) 43 0 ((at1 + 21) + p))) 43 0 ((at1 + 27) + p))) 34 0 p ((x_up (x_up (T_X7_takes_43_37_1_1 σ at1 p ) 32 0 p ((T_X7_takes_43_37_1_1 σ at1 p ) 43 0 ((at1 + 21) + p))) 33 0 p ((x_up (T_X7_takes_43_37_1_1 σ at1 p ) 32 0 p ((T_X7_takes_43_37_1_1 σ at1 p ) 43 0 ((at1 + 21) + p))) 43 0 ((at1 + 27) + p))) 43 0 ((at1 + 33) + p)))
def RS_X7_takes_43_37 (at1 : Nat) : Nat → Nat → xMi → xMi
  | 0, p, σ => σ
  | k + 1, p, σ => (RS_X7_takes_43_37 at1 k (p + 1) (x_up (x_up (T_X7_takes_43_37_1_2 σ at1 p ) 35 0 p ((T_X7_takes_43_37_1_2 σ at1 p ) 43 0 ((at1 + 39) + p))) 36 0 p ((x_up (T_X7_takes_43_37_1_2 σ at1 p ) 35 0 p ((T_X7_takes_43_37_1_2 σ at1 p ) 43 0 ((at1 + 39) + p))) 43 0 ((at1 + 45) + p))) )
theorem fr_RS_X7_takes_43_37 (at1 : Nat) {t i k' : Nat} (h : ¬ ((t = 24 ∧ 5 ≤ k' ∧ k' ≤ 8) ∨ (29 ≤ t ∧ t ≤ 36))) : ∀ (k p : Nat) (σ : xMi) , RS_X7_takes_43_37 at1 k p σ  t i k' = σ t i k' := by
  intro k
  induction k with
  | zero =>
    intro p σ 
    simp only [RS_X7_takes_43_37]
    all_goals ((repeat' split) <;> simp (disch := first | omega | assumption) only [x_up_o, x_up_k, x_cp_o])
  | succ k ih =>
    intro p σ 
    simp only [RS_X7_takes_43_37]
    all_goals (repeat' split)
    all_goals (first | rw [ih] | skip)
    all_goals first | done | simp (disch := first | omega | assumption) only [x_up_o, x_up_k, x_cp_o, T_X7_takes_43_37_1_2, T_X7_takes_43_37_1_1]
theorem lh_X7_takes_43_37 (l : Launch) (n : Nat) (at1 : Nat) (hn : 154 ≤ n) (hat1 : at1 ≤ 1000000) (ha1 : at1 ≤ 0) : ∀ (k p : Nat) (σ : xMi) , p + k = 6 →  x_G l RX7 cX7_takes 4 none 0 n none (RS_X7_takes_43_37 at1 k p σ ) 37 [(3, xI (p : Int)), (0, xR 24 0), (1, xR 43 0), (2, xI (at1 : Int))] [] σ := by
  intro k
  induction k with
  | zero =>
    intro p σ  hk 
    refine g_iload_n dX7_takes_37 rfl ?_
    refine g_bipush dX7_takes_38 (by decide) ?_
    refine g_cmp_ge 160 dX7_takes_40 rfl (fun c_40 => ?_) (fun c_40 => absurd (by rw [show x_wr 6 = 6 from by decide, x_nat (by omega)]; omega) c_40)
    exact f_vret dX7_takes_160 rfl rfl
  | succ k ih =>
    intro p σ  hk 
    have hp : p < 6 := by omega
    refine g_iload_n dX7_takes_37 rfl ?_
    refine g_bipush dX7_takes_38 (by decide) ?_
    refine g_cmp_ge 160 dX7_takes_40 rfl (fun c_40 => absurd c_40 (by rw [show x_wr 6 = 6 from by decide, x_nat (by omega)]; omega)) (fun c_40 => ?_)
    refine g_aload_n dX7_takes_43 rfl ?_
    refine g_getR (t2 := 29) (i2 := 0) dX7_takes_44 fl_X7_22 (x_vM hn (Nat.le_of_ble_eq_true rfl) (Nat.le_of_ble_eq_true rfl)) rfl rfl rfl ?_
    refine g_iload_n dX7_takes_47 rfl ?_
    refine g_aload_n dX7_takes_48 rfl ?_
    refine g_iload_n dX7_takes_49 rfl ?_
    refine g_iconst dX7_takes_50 ?_
    refine g_iadd dX7_takes_51 ?_
    refine g_eqI (((at1 + 3) : Nat) : Int) rfl ?_
    refine g_iload_n dX7_takes_52 rfl ?_
    refine g_iadd dX7_takes_53 ?_
    refine g_eqI ((((at1 + 3) + p) : Nat) : Int) rfl ?_
    refine g_iald ((at1 + 3) + p) dX7_takes_54 rfl (show ((at1 + 3) + p) < 52 by omega) (x_vM hn (Nat.le_of_ble_eq_true rfl) (Nat.le_of_ble_eq_true rfl)) rfl ?_
    refine g_iast p dX7_takes_55 rfl hp (x_vM hn (Nat.le_of_ble_eq_true rfl) (Nat.le_of_ble_eq_true rfl)) rfl ?_
    refine g_aload_n dX7_takes_56 rfl ?_
    refine g_getR (t2 := 30) (i2 := 0) dX7_takes_57 fl_X7_25 (x_vM hn (Nat.le_of_ble_eq_true rfl) (Nat.le_of_ble_eq_true rfl)) rfl rfl rfl ?_
    refine g_iload_n dX7_takes_60 rfl ?_
    refine g_aload_n dX7_takes_61 rfl ?_
    refine g_iload_n dX7_takes_62 rfl ?_
    refine g_bipush dX7_takes_63 (by decide) ?_
    refine g_iadd dX7_takes_65 ?_
    refine g_eqI (((at1 + 9) : Nat) : Int) rfl ?_
    refine g_iload_n dX7_takes_66 rfl ?_
    refine g_iadd dX7_takes_67 ?_
    refine g_eqI ((((at1 + 9) + p) : Nat) : Int) rfl ?_
    refine g_iald ((at1 + 9) + p) dX7_takes_68 rfl (show ((at1 + 9) + p) < 52 by omega) (x_vM hn (Nat.le_of_ble_eq_true rfl) (Nat.le_of_ble_eq_true rfl)) rfl ?_
    refine g_iast p dX7_takes_69 rfl hp (x_vM hn (Nat.le_of_ble_eq_true rfl) (Nat.le_of_ble_eq_true rfl)) rfl ?_
    refine g_aload_n dX7_takes_70 rfl ?_
    refine g_getR (t2 := 31) (i2 := 0) dX7_takes_71 fl_X7_28 (x_vM hn (Nat.le_of_ble_eq_true rfl) (Nat.le_of_ble_eq_true rfl)) rfl rfl rfl ?_
    refine g_iload_n dX7_takes_74 rfl ?_
    refine g_aload_n dX7_takes_75 rfl ?_
    refine g_iload_n dX7_takes_76 rfl ?_
    refine g_bipush dX7_takes_77 (by decide) ?_
    refine g_iadd dX7_takes_79 ?_
    refine g_eqI (((at1 + 15) : Nat) : Int) rfl ?_
    refine g_iload_n dX7_takes_80 rfl ?_
    refine g_iadd dX7_takes_81 ?_
    refine g_eqI ((((at1 + 15) + p) : Nat) : Int) rfl ?_
    refine g_iald ((at1 + 15) + p) dX7_takes_82 rfl (show ((at1 + 15) + p) < 52 by omega) (x_vM hn (Nat.le_of_ble_eq_true rfl) (Nat.le_of_ble_eq_true rfl)) rfl ?_
    refine g_iast p dX7_takes_83 rfl hp (x_vM hn (Nat.le_of_ble_eq_true rfl) (Nat.le_of_ble_eq_true rfl)) rfl ?_
    refine g_mem (T_X7_takes_43_37_1_1 σ at1 p ) rfl ?_
    refine g_aload_n dX7_takes_84 rfl ?_
    refine g_getR (t2 := 32) (i2 := 0) dX7_takes_85 fl_X7_31 (x_vM hn (Nat.le_of_ble_eq_true rfl) (Nat.le_of_ble_eq_true rfl)) rfl rfl rfl ?_
    refine g_iload_n dX7_takes_88 rfl ?_
    refine g_aload_n dX7_takes_89 rfl ?_
    refine g_iload_n dX7_takes_90 rfl ?_
    refine g_bipush dX7_takes_91 (by decide) ?_
    refine g_iadd dX7_takes_93 ?_
    refine g_eqI (((at1 + 21) : Nat) : Int) rfl ?_
    refine g_iload_n dX7_takes_94 rfl ?_
    refine g_iadd dX7_takes_95 ?_
    refine g_eqI ((((at1 + 21) + p) : Nat) : Int) rfl ?_
    refine g_iald ((at1 + 21) + p) dX7_takes_96 rfl (show ((at1 + 21) + p) < 52 by omega) (x_vM hn (Nat.le_of_ble_eq_true rfl) (Nat.le_of_ble_eq_true rfl)) rfl ?_
    refine g_iast p dX7_takes_97 rfl hp (x_vM hn (Nat.le_of_ble_eq_true rfl) (Nat.le_of_ble_eq_true rfl)) rfl ?_
    refine g_aload_n dX7_takes_98 rfl ?_
    refine g_getR (t2 := 33) (i2 := 0) dX7_takes_99 fl_X7_34 (x_vM hn (Nat.le_of_ble_eq_true rfl) (Nat.le_of_ble_eq_true rfl)) rfl rfl rfl ?_
    refine g_iload_n dX7_takes_102 rfl ?_
    refine g_aload_n dX7_takes_103 rfl ?_
    refine g_iload_n dX7_takes_104 rfl ?_
    refine g_bipush dX7_takes_105 (by decide) ?_
    refine g_iadd dX7_takes_107 ?_
    refine g_eqI (((at1 + 27) : Nat) : Int) rfl ?_
    refine g_iload_n dX7_takes_108 rfl ?_
    refine g_iadd dX7_takes_109 ?_
    refine g_eqI ((((at1 + 27) + p) : Nat) : Int) rfl ?_
    refine g_iald ((at1 + 27) + p) dX7_takes_110 rfl (show ((at1 + 27) + p) < 52 by omega) (x_vM hn (Nat.le_of_ble_eq_true rfl) (Nat.le_of_ble_eq_true rfl)) rfl ?_
    refine g_iast p dX7_takes_111 rfl hp (x_vM hn (Nat.le_of_ble_eq_true rfl) (Nat.le_of_ble_eq_true rfl)) rfl ?_
    refine g_aload_n dX7_takes_112 rfl ?_
    refine g_getR (t2 := 34) (i2 := 0) dX7_takes_113 fl_X7_37 (x_vM hn (Nat.le_of_ble_eq_true rfl) (Nat.le_of_ble_eq_true rfl)) rfl rfl rfl ?_
    refine g_iload_n dX7_takes_116 rfl ?_
    refine g_aload_n dX7_takes_117 rfl ?_
    refine g_iload_n dX7_takes_118 rfl ?_
    refine g_bipush dX7_takes_119 (by decide) ?_
    refine g_iadd dX7_takes_121 ?_
    refine g_eqI (((at1 + 33) : Nat) : Int) rfl ?_
    refine g_iload_n dX7_takes_122 rfl ?_
    refine g_iadd dX7_takes_123 ?_
    refine g_eqI ((((at1 + 33) + p) : Nat) : Int) rfl ?_
    refine g_iald ((at1 + 33) + p) dX7_takes_124 rfl (show ((at1 + 33) + p) < 52 by omega) (x_vM hn (Nat.le_of_ble_eq_true rfl) (Nat.le_of_ble_eq_true rfl)) rfl ?_
    refine g_iast p dX7_takes_125 rfl hp (x_vM hn (Nat.le_of_ble_eq_true rfl) (Nat.le_of_ble_eq_true rfl)) rfl ?_
    refine g_mem (T_X7_takes_43_37_1_2 σ at1 p ) rfl ?_
    refine g_aload_n dX7_takes_126 rfl ?_
    refine g_getR (t2 := 35) (i2 := 0) dX7_takes_127 fl_X7_40 (x_vM hn (Nat.le_of_ble_eq_true rfl) (Nat.le_of_ble_eq_true rfl)) rfl rfl rfl ?_
    refine g_iload_n dX7_takes_130 rfl ?_
    refine g_aload_n dX7_takes_131 rfl ?_
    refine g_iload_n dX7_takes_132 rfl ?_
    refine g_bipush dX7_takes_133 (by decide) ?_
    refine g_iadd dX7_takes_135 ?_
    refine g_eqI (((at1 + 39) : Nat) : Int) rfl ?_
    refine g_iload_n dX7_takes_136 rfl ?_
    refine g_iadd dX7_takes_137 ?_
    refine g_eqI ((((at1 + 39) + p) : Nat) : Int) rfl ?_
    refine g_iald ((at1 + 39) + p) dX7_takes_138 rfl (show ((at1 + 39) + p) < 52 by omega) (x_vM hn (Nat.le_of_ble_eq_true rfl) (Nat.le_of_ble_eq_true rfl)) rfl ?_
    refine g_iast p dX7_takes_139 rfl hp (x_vM hn (Nat.le_of_ble_eq_true rfl) (Nat.le_of_ble_eq_true rfl)) rfl ?_
    refine g_aload_n dX7_takes_140 rfl ?_
    refine g_getR (t2 := 36) (i2 := 0) dX7_takes_141 fl_X7_43 (x_vM hn (Nat.le_of_ble_eq_true rfl) (Nat.le_of_ble_eq_true rfl)) rfl rfl rfl ?_
    refine g_iload_n dX7_takes_144 rfl ?_
    refine g_aload_n dX7_takes_145 rfl ?_
    refine g_iload_n dX7_takes_146 rfl ?_
    refine g_bipush dX7_takes_147 (by decide) ?_
    refine g_iadd dX7_takes_149 ?_
    refine g_eqI (((at1 + 45) : Nat) : Int) rfl ?_
    refine g_iload_n dX7_takes_150 rfl ?_
    refine g_iadd dX7_takes_151 ?_
    refine g_eqI ((((at1 + 45) + p) : Nat) : Int) rfl ?_
    refine g_iald ((at1 + 45) + p) dX7_takes_152 rfl (show ((at1 + 45) + p) < 52 by omega) (x_vM hn (Nat.le_of_ble_eq_true rfl) (Nat.le_of_ble_eq_true rfl)) rfl ?_
    refine g_iast p dX7_takes_153 rfl hp (x_vM hn (Nat.le_of_ble_eq_true rfl) (Nat.le_of_ble_eq_true rfl)) rfl ?_
    refine g_iinc (lv' := [(3, xI (((p + 1) : Nat) : Int)), _, _, _]) dX7_takes_154 (Nat.le_of_ble_eq_true rfl) rfl rfl ?_
    refine g_goto 37 dX7_takes_157 rfl ?_
    refine g_sub (lv2 := [(3, xI (((p + 1) : Nat) : Int)), _, _, _]) [0, 1, 2, 3] rfl ?_
    exact f_cv rfl rfl (ih (p + 1) _  (by omega) )
def T_X7_takes_43_1 (σ : xMi) (at1 : Nat) : xMi := (x_up (x_up (x_up (x_up σ 24 0 5 (σ 43 0 at1)) 24 0 6 ((x_up σ 24 0 5 (σ 43 0 at1)) 43 0 (at1 + 1))) 24 0 7 ((x_up (x_up σ 24 0 5 (σ 43 0 at1)) 24 0 6 ((x_up σ 24 0 5 (σ 43 0 at1)) 43 0 (at1 + 1))) 43 0 (at1 + 2))) 24 0 8 ((x_up (x_up (x_up σ 24 0 5 (σ 43 0 at1)) 24 0 6 ((x_up σ 24 0 5 (σ 43 0 at1)) 43 0 (at1 + 1))) 24 0 7 ((x_up (x_up σ 24 0 5 (σ 43 0 at1)) 24 0 6 ((x_up σ 24 0 5 (σ 43 0 at1)) 43 0 (at1 + 1))) 43 0 (at1 + 2))) 43 0 (at1 + 51)))
def S_X7_takes_43 (σ : xMi) (at1 : Nat) : xMi := (RS_X7_takes_43_37 at1 6 0 (T_X7_takes_43_1 σ at1) )
theorem fr_S_X7_takes_43 (σ : xMi) (at1 : Nat) {t i k : Nat} (h : ¬ ((t = 24 ∧ 5 ≤ k ∧ k ≤ 8) ∨ (29 ≤ t ∧ t ≤ 36))) : S_X7_takes_43 σ at1 t i k = σ t i k := by
  unfold S_X7_takes_43
  all_goals ((repeat' split) <;> first | rfl | simp (disch := first | omega | assumption) only [x_up_o, x_up_k, x_cp_o, T_X7_takes_43_1, fr_RS_X7_takes_43_37])
theorem c_X7_takes_43 (l : Launch) (n : Nat) (σ : xMi) (at1 : Nat) (hn : 154 ≤ n) (hat1 : at1 ≤ 1000000) (ha1 : at1 ≤ 0)  : x_F l yX7_takes RX7 cX7_takes 4 none 0 n σ [xR 24 0, xR 43 0, xI (at1 : Int)] none (S_X7_takes_43 σ at1) := by
  refine f_of (by decide) rfl (Nat.le_of_ble_eq_true rfl) rfl ?_
  refine g_aload_n dX7_takes_0 rfl ?_
  refine g_aload_n dX7_takes_1 rfl ?_
  refine g_iload_n dX7_takes_2 rfl ?_
  refine g_iald at1 dX7_takes_3 rfl (show at1 < 52 by omega) (x_vM hn (Nat.le_of_ble_eq_true rfl) (Nat.le_of_ble_eq_true rfl)) rfl ?_
  refine g_putI dX7_takes_4 fl_X7_88 (x_vM hn (Nat.le_of_ble_eq_true rfl) (Nat.le_of_ble_eq_true rfl)) rfl rfl ?_
  refine g_aload_n dX7_takes_7 rfl ?_
  refine g_aload_n dX7_takes_8 rfl ?_
  refine g_iload_n dX7_takes_9 rfl ?_
  refine g_iconst dX7_takes_10 ?_
  refine g_iadd dX7_takes_11 ?_
  refine g_eqI (((at1 + 1) : Nat) : Int) rfl ?_
  refine g_iald (at1 + 1) dX7_takes_12 rfl (show (at1 + 1) < 52 by omega) (x_vM hn (Nat.le_of_ble_eq_true rfl) (Nat.le_of_ble_eq_true rfl)) rfl ?_
  refine g_putI dX7_takes_13 fl_X7_91 (x_vM hn (Nat.le_of_ble_eq_true rfl) (Nat.le_of_ble_eq_true rfl)) rfl rfl ?_
  refine g_aload_n dX7_takes_16 rfl ?_
  refine g_aload_n dX7_takes_17 rfl ?_
  refine g_iload_n dX7_takes_18 rfl ?_
  refine g_iconst dX7_takes_19 ?_
  refine g_iadd dX7_takes_20 ?_
  refine g_eqI (((at1 + 2) : Nat) : Int) rfl ?_
  refine g_iald (at1 + 2) dX7_takes_21 rfl (show (at1 + 2) < 52 by omega) (x_vM hn (Nat.le_of_ble_eq_true rfl) (Nat.le_of_ble_eq_true rfl)) rfl ?_
  refine g_putI dX7_takes_22 fl_X7_94 (x_vM hn (Nat.le_of_ble_eq_true rfl) (Nat.le_of_ble_eq_true rfl)) rfl rfl ?_
  refine g_aload_n dX7_takes_25 rfl ?_
  refine g_aload_n dX7_takes_26 rfl ?_
  refine g_iload_n dX7_takes_27 rfl ?_
  refine g_bipush dX7_takes_28 (by decide) ?_
  refine g_iadd dX7_takes_30 ?_
  refine g_eqI (((at1 + 51) : Nat) : Int) rfl ?_
  refine g_iald (at1 + 51) dX7_takes_31 rfl (show (at1 + 51) < 52 by omega) (x_vM hn (Nat.le_of_ble_eq_true rfl) (Nat.le_of_ble_eq_true rfl)) rfl ?_
  refine g_putI dX7_takes_32 fl_X7_97 (x_vM hn (Nat.le_of_ble_eq_true rfl) (Nat.le_of_ble_eq_true rfl)) rfl rfl ?_
  refine g_mem (T_X7_takes_43_1 σ at1) rfl ?_
  refine g_iconst dX7_takes_35 ?_
  refine g_istore_n (lv' := [_, _, _, _]) dX7_takes_36 (Nat.le_of_ble_eq_true rfl) rfl ?_
  refine g_sub (lv2 := [(3, xI ((0 : Nat) : Int)), _, _, _]) [0, 1, 2, 3] rfl ?_
  exact f_cv rfl rfl (lh_X7_takes_43_37 l n at1 hn hat1 ha1 6 0 _  (by omega) )

def T_X7_lays_46_37_1_1 (σ : xMi) (at1 : Nat) (p : Nat)  : xMi := (x_up (x_up (x_up σ 46 0 ((at1 + 3) + p) (σ 29 0 p)) 46 0 ((at1 + 9) + p) ((x_up σ 46 0 ((at1 + 3) + p) (σ 29 0 p)) 30 0 p)) 46 0 ((at1 + 15) + p) ((x_up (x_up σ 46 0 ((at1 + 3) + p) (σ 29 0 p)) 46 0 ((at1 + 9) + p) ((x_up σ 46 0 ((at1 + 3) + p) (σ 29 0 p)) 30 0 p)) 31 0 p))
def T_X7_lays_46_37_1_2 (σ : xMi) (at1 : Nat) (p : Nat)  : xMi := (x_up (x_up (x_up (T_X7_lays_46_37_1_1 σ at1 p ) 46 0 ((at1 + 21) + p) ((T_X7_lays_46_37_1_1 σ at1 p ) 32 0 p)) 46 0 ((at1 + 27) + p) ((x_up (T_X7_lays_46_37_1_1 σ at1 p ) 46 0 ((at1 + 21) + p) ((T_X7_lays_46_37_1_1 σ at1 p ) 32 0 p)) 33 0 p)) 46 0 ((at1 + 33) + p) ((x_up (x_up (T_X7_lays_46_37_1_1 σ at1 p ) 46 0 ((at1 + 21) + p) ((T_X7_lays_46_37_1_1 σ at1 p ) 32 0 p)) 46 0 ((at1 + 27) + p) ((x_up (T_X7_lays_46_37_1_1 σ at1 p ) 46 0 ((at1 + 21) + p) ((T_X7_lays_46_37_1_1 σ at1 p ) 32 0 p)) 33 0 p)) 34 0 p))
def RS_X7_lays_46_37 (at1 : Nat) : Nat → Nat → xMi → xMi
  | 0, p, σ => σ
  | k + 1, p, σ => (RS_X7_lays_46_37 at1 k (p + 1) (x_up (x_up (T_X7_lays_46_37_1_2 σ at1 p ) 46 0 ((at1 + 39) + p) ((T_X7_lays_46_37_1_2 σ at1 p ) 35 0 p)) 46 0 ((at1 + 45) + p) ((x_up (T_X7_lays_46_37_1_2 σ at1 p ) 46 0 ((at1 + 39) + p) ((T_X7_lays_46_37_1_2 σ at1 p ) 35 0 p)) 36 0 p)) )
theorem fr_RS_X7_lays_46_37 (at1 : Nat) {t i k' : Nat} (h : ¬ (t = 46)) : ∀ (k p : Nat) (σ : xMi) , RS_X7_lays_46_37 at1 k p σ  t i k' = σ t i k' := by
  intro k
  induction k with
  | zero =>
    intro p σ 
    simp only [RS_X7_lays_46_37]
    all_goals ((repeat' split) <;> simp (disch := first | omega | assumption) only [x_up_o, x_up_k, x_cp_o])
  | succ k ih =>
    intro p σ 
    simp only [RS_X7_lays_46_37]
    all_goals (repeat' split)
    all_goals (first | rw [ih] | skip)
    all_goals first | done | simp (disch := first | omega | assumption) only [x_up_o, x_up_k, x_cp_o, T_X7_lays_46_37_1_2, T_X7_lays_46_37_1_1]
theorem lh_X7_lays_46_37 (l : Launch) (n : Nat) (at1 : Nat) (hn : 154 ≤ n) (hat1 : at1 ≤ 1000000) (ha1 : at1 ≤ 52) : ∀ (k p : Nat) (σ : xMi) , p + k = 6 →  x_G l RX7 cX7_lays 4 none 0 n none (RS_X7_lays_46_37 at1 k p σ ) 37 [(3, xI (p : Int)), (0, xR 24 0), (1, xR 46 0), (2, xI (at1 : Int))] [] σ := by
  intro k
  induction k with
  | zero =>
    intro p σ  hk 
    refine g_iload_n dX7_lays_37 rfl ?_
    refine g_bipush dX7_lays_38 (by decide) ?_
    refine g_cmp_ge 160 dX7_lays_40 rfl (fun c_40 => ?_) (fun c_40 => absurd (by rw [show x_wr 6 = 6 from by decide, x_nat (by omega)]; omega) c_40)
    exact f_vret dX7_lays_160 rfl rfl
  | succ k ih =>
    intro p σ  hk 
    have hp : p < 6 := by omega
    refine g_iload_n dX7_lays_37 rfl ?_
    refine g_bipush dX7_lays_38 (by decide) ?_
    refine g_cmp_ge 160 dX7_lays_40 rfl (fun c_40 => absurd c_40 (by rw [show x_wr 6 = 6 from by decide, x_nat (by omega)]; omega)) (fun c_40 => ?_)
    refine g_aload_n dX7_lays_43 rfl ?_
    refine g_iload_n dX7_lays_44 rfl ?_
    refine g_iconst dX7_lays_45 ?_
    refine g_iadd dX7_lays_46 ?_
    refine g_eqI (((at1 + 3) : Nat) : Int) rfl ?_
    refine g_iload_n dX7_lays_47 rfl ?_
    refine g_iadd dX7_lays_48 ?_
    refine g_eqI ((((at1 + 3) + p) : Nat) : Int) rfl ?_
    refine g_aload_n dX7_lays_49 rfl ?_
    refine g_getR (t2 := 29) (i2 := 0) dX7_lays_50 fl_X7_22 (x_vM hn (Nat.le_of_ble_eq_true rfl) (Nat.le_of_ble_eq_true rfl)) rfl rfl rfl ?_
    refine g_iload_n dX7_lays_53 rfl ?_
    refine g_iald p dX7_lays_54 rfl hp (x_vM hn (Nat.le_of_ble_eq_true rfl) (Nat.le_of_ble_eq_true rfl)) rfl ?_
    refine g_iast ((at1 + 3) + p) dX7_lays_55 rfl (show ((at1 + 3) + p) < 104 by omega) (x_vM hn (Nat.le_of_ble_eq_true rfl) (Nat.le_of_ble_eq_true rfl)) rfl ?_
    refine g_aload_n dX7_lays_56 rfl ?_
    refine g_iload_n dX7_lays_57 rfl ?_
    refine g_bipush dX7_lays_58 (by decide) ?_
    refine g_iadd dX7_lays_60 ?_
    refine g_eqI (((at1 + 9) : Nat) : Int) rfl ?_
    refine g_iload_n dX7_lays_61 rfl ?_
    refine g_iadd dX7_lays_62 ?_
    refine g_eqI ((((at1 + 9) + p) : Nat) : Int) rfl ?_
    refine g_aload_n dX7_lays_63 rfl ?_
    refine g_getR (t2 := 30) (i2 := 0) dX7_lays_64 fl_X7_25 (x_vM hn (Nat.le_of_ble_eq_true rfl) (Nat.le_of_ble_eq_true rfl)) rfl rfl rfl ?_
    refine g_iload_n dX7_lays_67 rfl ?_
    refine g_iald p dX7_lays_68 rfl hp (x_vM hn (Nat.le_of_ble_eq_true rfl) (Nat.le_of_ble_eq_true rfl)) rfl ?_
    refine g_iast ((at1 + 9) + p) dX7_lays_69 rfl (show ((at1 + 9) + p) < 104 by omega) (x_vM hn (Nat.le_of_ble_eq_true rfl) (Nat.le_of_ble_eq_true rfl)) rfl ?_
    refine g_aload_n dX7_lays_70 rfl ?_
    refine g_iload_n dX7_lays_71 rfl ?_
    refine g_bipush dX7_lays_72 (by decide) ?_
    refine g_iadd dX7_lays_74 ?_
    refine g_eqI (((at1 + 15) : Nat) : Int) rfl ?_
    refine g_iload_n dX7_lays_75 rfl ?_
    refine g_iadd dX7_lays_76 ?_
    refine g_eqI ((((at1 + 15) + p) : Nat) : Int) rfl ?_
    refine g_aload_n dX7_lays_77 rfl ?_
    refine g_getR (t2 := 31) (i2 := 0) dX7_lays_78 fl_X7_28 (x_vM hn (Nat.le_of_ble_eq_true rfl) (Nat.le_of_ble_eq_true rfl)) rfl rfl rfl ?_
    refine g_iload_n dX7_lays_81 rfl ?_
    refine g_iald p dX7_lays_82 rfl hp (x_vM hn (Nat.le_of_ble_eq_true rfl) (Nat.le_of_ble_eq_true rfl)) rfl ?_
    refine g_iast ((at1 + 15) + p) dX7_lays_83 rfl (show ((at1 + 15) + p) < 104 by omega) (x_vM hn (Nat.le_of_ble_eq_true rfl) (Nat.le_of_ble_eq_true rfl)) rfl ?_
    refine g_mem (T_X7_lays_46_37_1_1 σ at1 p ) rfl ?_
    refine g_aload_n dX7_lays_84 rfl ?_
    refine g_iload_n dX7_lays_85 rfl ?_
    refine g_bipush dX7_lays_86 (by decide) ?_
    refine g_iadd dX7_lays_88 ?_
    refine g_eqI (((at1 + 21) : Nat) : Int) rfl ?_
    refine g_iload_n dX7_lays_89 rfl ?_
    refine g_iadd dX7_lays_90 ?_
    refine g_eqI ((((at1 + 21) + p) : Nat) : Int) rfl ?_
    refine g_aload_n dX7_lays_91 rfl ?_
    refine g_getR (t2 := 32) (i2 := 0) dX7_lays_92 fl_X7_31 (x_vM hn (Nat.le_of_ble_eq_true rfl) (Nat.le_of_ble_eq_true rfl)) rfl rfl rfl ?_
    refine g_iload_n dX7_lays_95 rfl ?_
    refine g_iald p dX7_lays_96 rfl hp (x_vM hn (Nat.le_of_ble_eq_true rfl) (Nat.le_of_ble_eq_true rfl)) rfl ?_
    refine g_iast ((at1 + 21) + p) dX7_lays_97 rfl (show ((at1 + 21) + p) < 104 by omega) (x_vM hn (Nat.le_of_ble_eq_true rfl) (Nat.le_of_ble_eq_true rfl)) rfl ?_
    refine g_aload_n dX7_lays_98 rfl ?_
    refine g_iload_n dX7_lays_99 rfl ?_
    refine g_bipush dX7_lays_100 (by decide) ?_
    refine g_iadd dX7_lays_102 ?_
    refine g_eqI (((at1 + 27) : Nat) : Int) rfl ?_
    refine g_iload_n dX7_lays_103 rfl ?_
    refine g_iadd dX7_lays_104 ?_
    refine g_eqI ((((at1 + 27) + p) : Nat) : Int) rfl ?_
    refine g_aload_n dX7_lays_105 rfl ?_
    refine g_getR (t2 := 33) (i2 := 0) dX7_lays_106 fl_X7_34 (x_vM hn (Nat.le_of_ble_eq_true rfl) (Nat.le_of_ble_eq_true rfl)) rfl rfl rfl ?_
    refine g_iload_n dX7_lays_109 rfl ?_
    refine g_iald p dX7_lays_110 rfl hp (x_vM hn (Nat.le_of_ble_eq_true rfl) (Nat.le_of_ble_eq_true rfl)) rfl ?_
    refine g_iast ((at1 + 27) + p) dX7_lays_111 rfl (show ((at1 + 27) + p) < 104 by omega) (x_vM hn (Nat.le_of_ble_eq_true rfl) (Nat.le_of_ble_eq_true rfl)) rfl ?_
    refine g_aload_n dX7_lays_112 rfl ?_
    refine g_iload_n dX7_lays_113 rfl ?_
    refine g_bipush dX7_lays_114 (by decide) ?_
    refine g_iadd dX7_lays_116 ?_
    refine g_eqI (((at1 + 33) : Nat) : Int) rfl ?_
    refine g_iload_n dX7_lays_117 rfl ?_
    refine g_iadd dX7_lays_118 ?_
    refine g_eqI ((((at1 + 33) + p) : Nat) : Int) rfl ?_
    refine g_aload_n dX7_lays_119 rfl ?_
    refine g_getR (t2 := 34) (i2 := 0) dX7_lays_120 fl_X7_37 (x_vM hn (Nat.le_of_ble_eq_true rfl) (Nat.le_of_ble_eq_true rfl)) rfl rfl rfl ?_
    refine g_iload_n dX7_lays_123 rfl ?_
    refine g_iald p dX7_lays_124 rfl hp (x_vM hn (Nat.le_of_ble_eq_true rfl) (Nat.le_of_ble_eq_true rfl)) rfl ?_
    refine g_iast ((at1 + 33) + p) dX7_lays_125 rfl (show ((at1 + 33) + p) < 104 by omega) (x_vM hn (Nat.le_of_ble_eq_true rfl) (Nat.le_of_ble_eq_true rfl)) rfl ?_
    refine g_mem (T_X7_lays_46_37_1_2 σ at1 p ) rfl ?_
    refine g_aload_n dX7_lays_126 rfl ?_
    refine g_iload_n dX7_lays_127 rfl ?_
    refine g_bipush dX7_lays_128 (by decide) ?_
    refine g_iadd dX7_lays_130 ?_
    refine g_eqI (((at1 + 39) : Nat) : Int) rfl ?_
    refine g_iload_n dX7_lays_131 rfl ?_
    refine g_iadd dX7_lays_132 ?_
    refine g_eqI ((((at1 + 39) + p) : Nat) : Int) rfl ?_
    refine g_aload_n dX7_lays_133 rfl ?_
    refine g_getR (t2 := 35) (i2 := 0) dX7_lays_134 fl_X7_40 (x_vM hn (Nat.le_of_ble_eq_true rfl) (Nat.le_of_ble_eq_true rfl)) rfl rfl rfl ?_
    refine g_iload_n dX7_lays_137 rfl ?_
    refine g_iald p dX7_lays_138 rfl hp (x_vM hn (Nat.le_of_ble_eq_true rfl) (Nat.le_of_ble_eq_true rfl)) rfl ?_
    refine g_iast ((at1 + 39) + p) dX7_lays_139 rfl (show ((at1 + 39) + p) < 104 by omega) (x_vM hn (Nat.le_of_ble_eq_true rfl) (Nat.le_of_ble_eq_true rfl)) rfl ?_
    refine g_aload_n dX7_lays_140 rfl ?_
    refine g_iload_n dX7_lays_141 rfl ?_
    refine g_bipush dX7_lays_142 (by decide) ?_
    refine g_iadd dX7_lays_144 ?_
    refine g_eqI (((at1 + 45) : Nat) : Int) rfl ?_
    refine g_iload_n dX7_lays_145 rfl ?_
    refine g_iadd dX7_lays_146 ?_
    refine g_eqI ((((at1 + 45) + p) : Nat) : Int) rfl ?_
    refine g_aload_n dX7_lays_147 rfl ?_
    refine g_getR (t2 := 36) (i2 := 0) dX7_lays_148 fl_X7_43 (x_vM hn (Nat.le_of_ble_eq_true rfl) (Nat.le_of_ble_eq_true rfl)) rfl rfl rfl ?_
    refine g_iload_n dX7_lays_151 rfl ?_
    refine g_iald p dX7_lays_152 rfl hp (x_vM hn (Nat.le_of_ble_eq_true rfl) (Nat.le_of_ble_eq_true rfl)) rfl ?_
    refine g_iast ((at1 + 45) + p) dX7_lays_153 rfl (show ((at1 + 45) + p) < 104 by omega) (x_vM hn (Nat.le_of_ble_eq_true rfl) (Nat.le_of_ble_eq_true rfl)) rfl ?_
    refine g_iinc (lv' := [(3, xI (((p + 1) : Nat) : Int)), _, _, _]) dX7_lays_154 (Nat.le_of_ble_eq_true rfl) rfl rfl ?_
    refine g_goto 37 dX7_lays_157 rfl ?_
    refine g_sub (lv2 := [(3, xI (((p + 1) : Nat) : Int)), _, _, _]) [0, 1, 2, 3] rfl ?_
    exact f_cv rfl rfl (ih (p + 1) _  (by omega) )
def T_X7_lays_46_1 (σ : xMi) (at1 : Nat) : xMi := (x_up (x_up (x_up (x_up σ 46 0 at1 (σ 24 0 5)) 46 0 (at1 + 1) ((x_up σ 46 0 at1 (σ 24 0 5)) 24 0 6)) 46 0 (at1 + 2) ((x_up (x_up σ 46 0 at1 (σ 24 0 5)) 46 0 (at1 + 1) ((x_up σ 46 0 at1 (σ 24 0 5)) 24 0 6)) 24 0 7)) 46 0 (at1 + 51) ((x_up (x_up (x_up σ 46 0 at1 (σ 24 0 5)) 46 0 (at1 + 1) ((x_up σ 46 0 at1 (σ 24 0 5)) 24 0 6)) 46 0 (at1 + 2) ((x_up (x_up σ 46 0 at1 (σ 24 0 5)) 46 0 (at1 + 1) ((x_up σ 46 0 at1 (σ 24 0 5)) 24 0 6)) 24 0 7)) 24 0 8))
def S_X7_lays_46 (σ : xMi) (at1 : Nat) : xMi := (RS_X7_lays_46_37 at1 6 0 (T_X7_lays_46_1 σ at1) )
theorem fr_S_X7_lays_46 (σ : xMi) (at1 : Nat) {t i k : Nat} (h : ¬ (t = 46)) : S_X7_lays_46 σ at1 t i k = σ t i k := by
  unfold S_X7_lays_46
  all_goals ((repeat' split) <;> first | rfl | simp (disch := first | omega | assumption) only [x_up_o, x_up_k, x_cp_o, T_X7_lays_46_1, fr_RS_X7_lays_46_37])
theorem c_X7_lays_46 (l : Launch) (n : Nat) (σ : xMi) (at1 : Nat) (hn : 154 ≤ n) (hat1 : at1 ≤ 1000000) (ha1 : at1 ≤ 52)  : x_F l yX7_lays RX7 cX7_lays 4 none 0 n σ [xR 24 0, xR 46 0, xI (at1 : Int)] none (S_X7_lays_46 σ at1) := by
  refine f_of (by decide) rfl (Nat.le_of_ble_eq_true rfl) rfl ?_
  refine g_aload_n dX7_lays_0 rfl ?_
  refine g_iload_n dX7_lays_1 rfl ?_
  refine g_aload_n dX7_lays_2 rfl ?_
  refine g_getI dX7_lays_3 fl_X7_88 (x_vM hn (Nat.le_of_ble_eq_true rfl) (Nat.le_of_ble_eq_true rfl)) rfl rfl ?_
  refine g_iast at1 dX7_lays_6 rfl (show at1 < 104 by omega) (x_vM hn (Nat.le_of_ble_eq_true rfl) (Nat.le_of_ble_eq_true rfl)) rfl ?_
  refine g_aload_n dX7_lays_7 rfl ?_
  refine g_iload_n dX7_lays_8 rfl ?_
  refine g_iconst dX7_lays_9 ?_
  refine g_iadd dX7_lays_10 ?_
  refine g_eqI (((at1 + 1) : Nat) : Int) rfl ?_
  refine g_aload_n dX7_lays_11 rfl ?_
  refine g_getI dX7_lays_12 fl_X7_91 (x_vM hn (Nat.le_of_ble_eq_true rfl) (Nat.le_of_ble_eq_true rfl)) rfl rfl ?_
  refine g_iast (at1 + 1) dX7_lays_15 rfl (show (at1 + 1) < 104 by omega) (x_vM hn (Nat.le_of_ble_eq_true rfl) (Nat.le_of_ble_eq_true rfl)) rfl ?_
  refine g_aload_n dX7_lays_16 rfl ?_
  refine g_iload_n dX7_lays_17 rfl ?_
  refine g_iconst dX7_lays_18 ?_
  refine g_iadd dX7_lays_19 ?_
  refine g_eqI (((at1 + 2) : Nat) : Int) rfl ?_
  refine g_aload_n dX7_lays_20 rfl ?_
  refine g_getI dX7_lays_21 fl_X7_94 (x_vM hn (Nat.le_of_ble_eq_true rfl) (Nat.le_of_ble_eq_true rfl)) rfl rfl ?_
  refine g_iast (at1 + 2) dX7_lays_24 rfl (show (at1 + 2) < 104 by omega) (x_vM hn (Nat.le_of_ble_eq_true rfl) (Nat.le_of_ble_eq_true rfl)) rfl ?_
  refine g_aload_n dX7_lays_25 rfl ?_
  refine g_iload_n dX7_lays_26 rfl ?_
  refine g_bipush dX7_lays_27 (by decide) ?_
  refine g_iadd dX7_lays_29 ?_
  refine g_eqI (((at1 + 51) : Nat) : Int) rfl ?_
  refine g_aload_n dX7_lays_30 rfl ?_
  refine g_getI dX7_lays_31 fl_X7_97 (x_vM hn (Nat.le_of_ble_eq_true rfl) (Nat.le_of_ble_eq_true rfl)) rfl rfl ?_
  refine g_iast (at1 + 51) dX7_lays_34 rfl (show (at1 + 51) < 104 by omega) (x_vM hn (Nat.le_of_ble_eq_true rfl) (Nat.le_of_ble_eq_true rfl)) rfl ?_
  refine g_mem (T_X7_lays_46_1 σ at1) rfl ?_
  refine g_iconst dX7_lays_35 ?_
  refine g_istore_n (lv' := [_, _, _, _]) dX7_lays_36 (Nat.le_of_ble_eq_true rfl) rfl ?_
  refine g_sub (lv2 := [(3, xI ((0 : Nat) : Int)), _, _, _]) [0, 1, 2, 3] rfl ?_
  exact f_cv rfl rfl (lh_X7_lays_46_37 l n at1 hn hat1 ha1 6 0 _  (by omega) )

def T_X7_takes_46_37_1_1 (σ : xMi) (at1 : Nat) (p : Nat)  : xMi := (x_up (x_up (x_up σ 29 0 p (σ 46 0 ((at1 + 3) + p))) 30 0 p ((x_up σ 29 0 p (σ 46 0 ((at1 + 3) + p))) 46 0 ((at1 + 9) + p))) 31 0 p ((x_up (x_up σ 29 0 p (σ 46 0 ((at1 + 3) + p))) 30 0 p ((x_up σ 29 0 p (σ 46 0 ((at1 + 3) + p))) 46 0 ((at1 + 9) + p))) 46 0 ((at1 + 15) + p)))
def T_X7_takes_46_37_1_2 (σ : xMi) (at1 : Nat) (p : Nat)  : xMi := (x_up (x_up (x_up (T_X7_takes_46_37_1_1 σ at1 p ) 32 0 p ((T_X7_takes_46_37_1_1 σ at1 p ) 46 0 ((at1 + 21) + p))) 33 0 p ((x_up (T_X7_takes_46_37_1_1 σ at1 p ) 32 0 p ((T_X7_takes_46_37_1_1 σ at1 p ) 46 0 ((at1 + 21) + p))) 46 0 ((at1 + 27) + p))) 34 0 p ((x_up (x_up (T_X7_takes_46_37_1_1 σ at1 p ) 32 0 p ((T_X7_takes_46_37_1_1 σ at1 p ) 46 0 ((at1 + 21) + p))) 33 0 p ((x_up (T_X7_takes_46_37_1_1 σ at1 p ) 32 0 p ((T_X7_takes_46_37_1_1 σ at1 p ) 46 0 ((at1 + 21) + p))) 46 0 ((at1 + 27) + p))) 46 0 ((at1 + 33) + p)))
def RS_X7_takes_46_37 (at1 : Nat) : Nat → Nat → xMi → xMi
  | 0, p, σ => σ
  | k + 1, p, σ => (RS_X7_takes_46_37 at1 k (p + 1) (x_up (x_up (T_X7_takes_46_37_1_2 σ at1 p ) 35 0 p ((T_X7_takes_46_37_1_2 σ at1 p ) 46 0 ((at1 + 39) + p))) 36 0 p ((x_up (T_X7_takes_46_37_1_2 σ at1 p ) 35 0 p ((T_X7_takes_46_37_1_2 σ at1 p ) 46 0 ((at1 + 39) + p))) 46 0 ((at1 + 45) + p))) )
theorem fr_RS_X7_takes_46_37 (at1 : Nat) {t i k' : Nat} (h : ¬ ((t = 24 ∧ 5 ≤ k' ∧ k' ≤ 8) ∨ (29 ≤ t ∧ t ≤ 36))) : ∀ (k p : Nat) (σ : xMi) , RS_X7_takes_46_37 at1 k p σ  t i k' = σ t i k' := by
  intro k
  induction k with
  | zero =>
    intro p σ 
    simp only [RS_X7_takes_46_37]
    all_goals ((repeat' split) <;> simp (disch := first | omega | assumption) only [x_up_o, x_up_k, x_cp_o])
  | succ k ih =>
    intro p σ 
    simp only [RS_X7_takes_46_37]
    all_goals (repeat' split)
    all_goals (first | rw [ih] | skip)
    all_goals first | done | simp (disch := first | omega | assumption) only [x_up_o, x_up_k, x_cp_o, T_X7_takes_46_37_1_2, T_X7_takes_46_37_1_1]
theorem lh_X7_takes_46_37 (l : Launch) (n : Nat) (at1 : Nat) (hn : 154 ≤ n) (hat1 : at1 ≤ 1000000) (ha1 : at1 ≤ 52) : ∀ (k p : Nat) (σ : xMi) , p + k = 6 →  x_G l RX7 cX7_takes 4 none 0 n none (RS_X7_takes_46_37 at1 k p σ ) 37 [(3, xI (p : Int)), (0, xR 24 0), (1, xR 46 0), (2, xI (at1 : Int))] [] σ := by
  intro k
  induction k with
  | zero =>
    intro p σ  hk 
    refine g_iload_n dX7_takes_37 rfl ?_
    refine g_bipush dX7_takes_38 (by decide) ?_
    refine g_cmp_ge 160 dX7_takes_40 rfl (fun c_40 => ?_) (fun c_40 => absurd (by rw [show x_wr 6 = 6 from by decide, x_nat (by omega)]; omega) c_40)
    exact f_vret dX7_takes_160 rfl rfl
  | succ k ih =>
    intro p σ  hk 
    have hp : p < 6 := by omega
    refine g_iload_n dX7_takes_37 rfl ?_
    refine g_bipush dX7_takes_38 (by decide) ?_
    refine g_cmp_ge 160 dX7_takes_40 rfl (fun c_40 => absurd c_40 (by rw [show x_wr 6 = 6 from by decide, x_nat (by omega)]; omega)) (fun c_40 => ?_)
    refine g_aload_n dX7_takes_43 rfl ?_
    refine g_getR (t2 := 29) (i2 := 0) dX7_takes_44 fl_X7_22 (x_vM hn (Nat.le_of_ble_eq_true rfl) (Nat.le_of_ble_eq_true rfl)) rfl rfl rfl ?_
    refine g_iload_n dX7_takes_47 rfl ?_
    refine g_aload_n dX7_takes_48 rfl ?_
    refine g_iload_n dX7_takes_49 rfl ?_
    refine g_iconst dX7_takes_50 ?_
    refine g_iadd dX7_takes_51 ?_
    refine g_eqI (((at1 + 3) : Nat) : Int) rfl ?_
    refine g_iload_n dX7_takes_52 rfl ?_
    refine g_iadd dX7_takes_53 ?_
    refine g_eqI ((((at1 + 3) + p) : Nat) : Int) rfl ?_
    refine g_iald ((at1 + 3) + p) dX7_takes_54 rfl (show ((at1 + 3) + p) < 104 by omega) (x_vM hn (Nat.le_of_ble_eq_true rfl) (Nat.le_of_ble_eq_true rfl)) rfl ?_
    refine g_iast p dX7_takes_55 rfl hp (x_vM hn (Nat.le_of_ble_eq_true rfl) (Nat.le_of_ble_eq_true rfl)) rfl ?_
    refine g_aload_n dX7_takes_56 rfl ?_
    refine g_getR (t2 := 30) (i2 := 0) dX7_takes_57 fl_X7_25 (x_vM hn (Nat.le_of_ble_eq_true rfl) (Nat.le_of_ble_eq_true rfl)) rfl rfl rfl ?_
    refine g_iload_n dX7_takes_60 rfl ?_
    refine g_aload_n dX7_takes_61 rfl ?_
    refine g_iload_n dX7_takes_62 rfl ?_
    refine g_bipush dX7_takes_63 (by decide) ?_
    refine g_iadd dX7_takes_65 ?_
    refine g_eqI (((at1 + 9) : Nat) : Int) rfl ?_
    refine g_iload_n dX7_takes_66 rfl ?_
    refine g_iadd dX7_takes_67 ?_
    refine g_eqI ((((at1 + 9) + p) : Nat) : Int) rfl ?_
    refine g_iald ((at1 + 9) + p) dX7_takes_68 rfl (show ((at1 + 9) + p) < 104 by omega) (x_vM hn (Nat.le_of_ble_eq_true rfl) (Nat.le_of_ble_eq_true rfl)) rfl ?_
    refine g_iast p dX7_takes_69 rfl hp (x_vM hn (Nat.le_of_ble_eq_true rfl) (Nat.le_of_ble_eq_true rfl)) rfl ?_
    refine g_aload_n dX7_takes_70 rfl ?_
    refine g_getR (t2 := 31) (i2 := 0) dX7_takes_71 fl_X7_28 (x_vM hn (Nat.le_of_ble_eq_true rfl) (Nat.le_of_ble_eq_true rfl)) rfl rfl rfl ?_
    refine g_iload_n dX7_takes_74 rfl ?_
    refine g_aload_n dX7_takes_75 rfl ?_
    refine g_iload_n dX7_takes_76 rfl ?_
    refine g_bipush dX7_takes_77 (by decide) ?_
    refine g_iadd dX7_takes_79 ?_
    refine g_eqI (((at1 + 15) : Nat) : Int) rfl ?_
    refine g_iload_n dX7_takes_80 rfl ?_
    refine g_iadd dX7_takes_81 ?_
    refine g_eqI ((((at1 + 15) + p) : Nat) : Int) rfl ?_
    refine g_iald ((at1 + 15) + p) dX7_takes_82 rfl (show ((at1 + 15) + p) < 104 by omega) (x_vM hn (Nat.le_of_ble_eq_true rfl) (Nat.le_of_ble_eq_true rfl)) rfl ?_
    refine g_iast p dX7_takes_83 rfl hp (x_vM hn (Nat.le_of_ble_eq_true rfl) (Nat.le_of_ble_eq_true rfl)) rfl ?_
    refine g_mem (T_X7_takes_46_37_1_1 σ at1 p ) rfl ?_
    refine g_aload_n dX7_takes_84 rfl ?_
    refine g_getR (t2 := 32) (i2 := 0) dX7_takes_85 fl_X7_31 (x_vM hn (Nat.le_of_ble_eq_true rfl) (Nat.le_of_ble_eq_true rfl)) rfl rfl rfl ?_
    refine g_iload_n dX7_takes_88 rfl ?_
    refine g_aload_n dX7_takes_89 rfl ?_
    refine g_iload_n dX7_takes_90 rfl ?_
    refine g_bipush dX7_takes_91 (by decide) ?_
    refine g_iadd dX7_takes_93 ?_
    refine g_eqI (((at1 + 21) : Nat) : Int) rfl ?_
    refine g_iload_n dX7_takes_94 rfl ?_
    refine g_iadd dX7_takes_95 ?_
    refine g_eqI ((((at1 + 21) + p) : Nat) : Int) rfl ?_
    refine g_iald ((at1 + 21) + p) dX7_takes_96 rfl (show ((at1 + 21) + p) < 104 by omega) (x_vM hn (Nat.le_of_ble_eq_true rfl) (Nat.le_of_ble_eq_true rfl)) rfl ?_
    refine g_iast p dX7_takes_97 rfl hp (x_vM hn (Nat.le_of_ble_eq_true rfl) (Nat.le_of_ble_eq_true rfl)) rfl ?_
    refine g_aload_n dX7_takes_98 rfl ?_
    refine g_getR (t2 := 33) (i2 := 0) dX7_takes_99 fl_X7_34 (x_vM hn (Nat.le_of_ble_eq_true rfl) (Nat.le_of_ble_eq_true rfl)) rfl rfl rfl ?_
    refine g_iload_n dX7_takes_102 rfl ?_
    refine g_aload_n dX7_takes_103 rfl ?_
    refine g_iload_n dX7_takes_104 rfl ?_
    refine g_bipush dX7_takes_105 (by decide) ?_
    refine g_iadd dX7_takes_107 ?_
    refine g_eqI (((at1 + 27) : Nat) : Int) rfl ?_
    refine g_iload_n dX7_takes_108 rfl ?_
    refine g_iadd dX7_takes_109 ?_
    refine g_eqI ((((at1 + 27) + p) : Nat) : Int) rfl ?_
    refine g_iald ((at1 + 27) + p) dX7_takes_110 rfl (show ((at1 + 27) + p) < 104 by omega) (x_vM hn (Nat.le_of_ble_eq_true rfl) (Nat.le_of_ble_eq_true rfl)) rfl ?_
    refine g_iast p dX7_takes_111 rfl hp (x_vM hn (Nat.le_of_ble_eq_true rfl) (Nat.le_of_ble_eq_true rfl)) rfl ?_
    refine g_aload_n dX7_takes_112 rfl ?_
    refine g_getR (t2 := 34) (i2 := 0) dX7_takes_113 fl_X7_37 (x_vM hn (Nat.le_of_ble_eq_true rfl) (Nat.le_of_ble_eq_true rfl)) rfl rfl rfl ?_
    refine g_iload_n dX7_takes_116 rfl ?_
    refine g_aload_n dX7_takes_117 rfl ?_
    refine g_iload_n dX7_takes_118 rfl ?_
    refine g_bipush dX7_takes_119 (by decide) ?_
    refine g_iadd dX7_takes_121 ?_
    refine g_eqI (((at1 + 33) : Nat) : Int) rfl ?_
    refine g_iload_n dX7_takes_122 rfl ?_
    refine g_iadd dX7_takes_123 ?_
    refine g_eqI ((((at1 + 33) + p) : Nat) : Int) rfl ?_
    refine g_iald ((at1 + 33) + p) dX7_takes_124 rfl (show ((at1 + 33) + p) < 104 by omega) (x_vM hn (Nat.le_of_ble_eq_true rfl) (Nat.le_of_ble_eq_true rfl)) rfl ?_
    refine g_iast p dX7_takes_125 rfl hp (x_vM hn (Nat.le_of_ble_eq_true rfl) (Nat.le_of_ble_eq_true rfl)) rfl ?_
    refine g_mem (T_X7_takes_46_37_1_2 σ at1 p ) rfl ?_
    refine g_aload_n dX7_takes_126 rfl ?_
    refine g_getR (t2 := 35) (i2 := 0) dX7_takes_127 fl_X7_40 (x_vM hn (Nat.le_of_ble_eq_true rfl) (Nat.le_of_ble_eq_true rfl)) rfl rfl rfl ?_
    refine g_iload_n dX7_takes_130 rfl ?_
    refine g_aload_n dX7_takes_131 rfl ?_
    refine g_iload_n dX7_takes_132 rfl ?_
    refine g_bipush dX7_takes_133 (by decide) ?_
    refine g_iadd dX7_takes_135 ?_
    refine g_eqI (((at1 + 39) : Nat) : Int) rfl ?_
    refine g_iload_n dX7_takes_136 rfl ?_
    refine g_iadd dX7_takes_137 ?_
    refine g_eqI ((((at1 + 39) + p) : Nat) : Int) rfl ?_
    refine g_iald ((at1 + 39) + p) dX7_takes_138 rfl (show ((at1 + 39) + p) < 104 by omega) (x_vM hn (Nat.le_of_ble_eq_true rfl) (Nat.le_of_ble_eq_true rfl)) rfl ?_
    refine g_iast p dX7_takes_139 rfl hp (x_vM hn (Nat.le_of_ble_eq_true rfl) (Nat.le_of_ble_eq_true rfl)) rfl ?_
    refine g_aload_n dX7_takes_140 rfl ?_
    refine g_getR (t2 := 36) (i2 := 0) dX7_takes_141 fl_X7_43 (x_vM hn (Nat.le_of_ble_eq_true rfl) (Nat.le_of_ble_eq_true rfl)) rfl rfl rfl ?_
    refine g_iload_n dX7_takes_144 rfl ?_
    refine g_aload_n dX7_takes_145 rfl ?_
    refine g_iload_n dX7_takes_146 rfl ?_
    refine g_bipush dX7_takes_147 (by decide) ?_
    refine g_iadd dX7_takes_149 ?_
    refine g_eqI (((at1 + 45) : Nat) : Int) rfl ?_
    refine g_iload_n dX7_takes_150 rfl ?_
    refine g_iadd dX7_takes_151 ?_
    refine g_eqI ((((at1 + 45) + p) : Nat) : Int) rfl ?_
    refine g_iald ((at1 + 45) + p) dX7_takes_152 rfl (show ((at1 + 45) + p) < 104 by omega) (x_vM hn (Nat.le_of_ble_eq_true rfl) (Nat.le_of_ble_eq_true rfl)) rfl ?_
    refine g_iast p dX7_takes_153 rfl hp (x_vM hn (Nat.le_of_ble_eq_true rfl) (Nat.le_of_ble_eq_true rfl)) rfl ?_
    refine g_iinc (lv' := [(3, xI (((p + 1) : Nat) : Int)), _, _, _]) dX7_takes_154 (Nat.le_of_ble_eq_true rfl) rfl rfl ?_
    refine g_goto 37 dX7_takes_157 rfl ?_
    refine g_sub (lv2 := [(3, xI (((p + 1) : Nat) : Int)), _, _, _]) [0, 1, 2, 3] rfl ?_
    exact f_cv rfl rfl (ih (p + 1) _  (by omega) )
def T_X7_takes_46_1 (σ : xMi) (at1 : Nat) : xMi := (x_up (x_up (x_up (x_up σ 24 0 5 (σ 46 0 at1)) 24 0 6 ((x_up σ 24 0 5 (σ 46 0 at1)) 46 0 (at1 + 1))) 24 0 7 ((x_up (x_up σ 24 0 5 (σ 46 0 at1)) 24 0 6 ((x_up σ 24 0 5 (σ 46 0 at1)) 46 0 (at1 + 1))) 46 0 (at1 + 2))) 24 0 8 ((x_up (x_up (x_up σ 24 0 5 (σ 46 0 at1)) 24 0 6 ((x_up σ 24 0 5 (σ 46 0 at1)) 46 0 (at1 + 1))) 24 0 7 ((x_up (x_up σ 24 0 5 (σ 46 0 at1)) 24 0 6 ((x_up σ 24 0 5 (σ 46 0 at1)) 46 0 (at1 + 1))) 46 0 (at1 + 2))) 46 0 (at1 + 51)))
def S_X7_takes_46 (σ : xMi) (at1 : Nat) : xMi := (RS_X7_takes_46_37 at1 6 0 (T_X7_takes_46_1 σ at1) )
theorem fr_S_X7_takes_46 (σ : xMi) (at1 : Nat) {t i k : Nat} (h : ¬ ((t = 24 ∧ 5 ≤ k ∧ k ≤ 8) ∨ (29 ≤ t ∧ t ≤ 36))) : S_X7_takes_46 σ at1 t i k = σ t i k := by
  unfold S_X7_takes_46
  all_goals ((repeat' split) <;> first | rfl | simp (disch := first | omega | assumption) only [x_up_o, x_up_k, x_cp_o, T_X7_takes_46_1, fr_RS_X7_takes_46_37])
theorem c_X7_takes_46 (l : Launch) (n : Nat) (σ : xMi) (at1 : Nat) (hn : 154 ≤ n) (hat1 : at1 ≤ 1000000) (ha1 : at1 ≤ 52)  : x_F l yX7_takes RX7 cX7_takes 4 none 0 n σ [xR 24 0, xR 46 0, xI (at1 : Int)] none (S_X7_takes_46 σ at1) := by
  refine f_of (by decide) rfl (Nat.le_of_ble_eq_true rfl) rfl ?_
  refine g_aload_n dX7_takes_0 rfl ?_
  refine g_aload_n dX7_takes_1 rfl ?_
  refine g_iload_n dX7_takes_2 rfl ?_
  refine g_iald at1 dX7_takes_3 rfl (show at1 < 104 by omega) (x_vM hn (Nat.le_of_ble_eq_true rfl) (Nat.le_of_ble_eq_true rfl)) rfl ?_
  refine g_putI dX7_takes_4 fl_X7_88 (x_vM hn (Nat.le_of_ble_eq_true rfl) (Nat.le_of_ble_eq_true rfl)) rfl rfl ?_
  refine g_aload_n dX7_takes_7 rfl ?_
  refine g_aload_n dX7_takes_8 rfl ?_
  refine g_iload_n dX7_takes_9 rfl ?_
  refine g_iconst dX7_takes_10 ?_
  refine g_iadd dX7_takes_11 ?_
  refine g_eqI (((at1 + 1) : Nat) : Int) rfl ?_
  refine g_iald (at1 + 1) dX7_takes_12 rfl (show (at1 + 1) < 104 by omega) (x_vM hn (Nat.le_of_ble_eq_true rfl) (Nat.le_of_ble_eq_true rfl)) rfl ?_
  refine g_putI dX7_takes_13 fl_X7_91 (x_vM hn (Nat.le_of_ble_eq_true rfl) (Nat.le_of_ble_eq_true rfl)) rfl rfl ?_
  refine g_aload_n dX7_takes_16 rfl ?_
  refine g_aload_n dX7_takes_17 rfl ?_
  refine g_iload_n dX7_takes_18 rfl ?_
  refine g_iconst dX7_takes_19 ?_
  refine g_iadd dX7_takes_20 ?_
  refine g_eqI (((at1 + 2) : Nat) : Int) rfl ?_
  refine g_iald (at1 + 2) dX7_takes_21 rfl (show (at1 + 2) < 104 by omega) (x_vM hn (Nat.le_of_ble_eq_true rfl) (Nat.le_of_ble_eq_true rfl)) rfl ?_
  refine g_putI dX7_takes_22 fl_X7_94 (x_vM hn (Nat.le_of_ble_eq_true rfl) (Nat.le_of_ble_eq_true rfl)) rfl rfl ?_
  refine g_aload_n dX7_takes_25 rfl ?_
  refine g_aload_n dX7_takes_26 rfl ?_
  refine g_iload_n dX7_takes_27 rfl ?_
  refine g_bipush dX7_takes_28 (by decide) ?_
  refine g_iadd dX7_takes_30 ?_
  refine g_eqI (((at1 + 51) : Nat) : Int) rfl ?_
  refine g_iald (at1 + 51) dX7_takes_31 rfl (show (at1 + 51) < 104 by omega) (x_vM hn (Nat.le_of_ble_eq_true rfl) (Nat.le_of_ble_eq_true rfl)) rfl ?_
  refine g_putI dX7_takes_32 fl_X7_97 (x_vM hn (Nat.le_of_ble_eq_true rfl) (Nat.le_of_ble_eq_true rfl)) rfl rfl ?_
  refine g_mem (T_X7_takes_46_1 σ at1) rfl ?_
  refine g_iconst dX7_takes_35 ?_
  refine g_istore_n (lv' := [_, _, _, _]) dX7_takes_36 (Nat.le_of_ble_eq_true rfl) rfl ?_
  refine g_sub (lv2 := [(3, xI ((0 : Nat) : Int)), _, _, _]) [0, 1, 2, 3] rfl ?_
  exact f_cv rfl rfl (lh_X7_takes_46_37 l n at1 hn hat1 ha1 6 0 _  (by omega) )

def S_X7_start (σ : xMi)  : xMi := (S_X7_lays_43 σ 0)
theorem fr_S_X7_start (σ : xMi)  {t i k : Nat} (h : ¬ (t = 43)) : S_X7_start σ  t i k = σ t i k := by
  unfold S_X7_start
  all_goals ((repeat' split) <;> first | rfl | simp (disch := first | omega | assumption) only [x_up_o, x_up_k, x_cp_o, fr_S_X7_lays_43])
theorem c_X7_start (l : Launch) (n : Nat) (σ : xMi)  (hn : 154 ≤ n)   : x_F l yX7_start RX7 cX7_start 1 none 1 n σ [xR 24 0] none (S_X7_start σ ) := by
  refine f_of (by decide) rfl (Nat.le_of_ble_eq_true rfl) rfl ?_
  refine g_aload_n dX7_start_0 rfl ?_
  refine g_aload_n dX7_start_1 rfl ?_
  refine g_getR (t2 := 43) (i2 := 0) dX7_start_2 fl_X7_64 (x_vM hn (Nat.le_of_ble_eq_true rfl) (Nat.le_of_ble_eq_true rfl)) rfl rfl rfl ?_
  refine g_iconst dX7_start_5 ?_
  refine f_Vv dX7_start_6 cs_X7_169 mb_X7_lays (c_X7_lays_43 l n _ 0 hn (Nat.le_of_ble_eq_true rfl) (by decide)) rfl (x_vM hn (Nat.le_of_ble_eq_true rfl) (Nat.le_of_ble_eq_true rfl)) rfl rfl rfl (Nat.le_of_ble_eq_true rfl) (by decide) (Nat.le_of_ble_eq_true rfl) (Nat.le_refl _) (Nat.le_refl _) ?_
  exact f_vret dX7_start_9 rfl rfl

def S_X7_putBack (σ : xMi)  : xMi := (S_X7_takes_43 σ 0)
theorem fr_S_X7_putBack (σ : xMi)  {t i k : Nat} (h : ¬ ((t = 24 ∧ 5 ≤ k ∧ k ≤ 8) ∨ (29 ≤ t ∧ t ≤ 36))) : S_X7_putBack σ  t i k = σ t i k := by
  unfold S_X7_putBack
  all_goals ((repeat' split) <;> first | rfl | simp (disch := first | omega | assumption) only [x_up_o, x_up_k, x_cp_o, fr_S_X7_takes_43])
theorem c_X7_putBack (l : Launch) (n : Nat) (σ : xMi)  (hn : 154 ≤ n)   : x_F l yX7_putBack RX7 cX7_putBack 1 none 1 n σ [xR 24 0] none (S_X7_putBack σ ) := by
  refine f_of (by decide) rfl (Nat.le_of_ble_eq_true rfl) rfl ?_
  refine g_aload_n dX7_putBack_0 rfl ?_
  refine g_aload_n dX7_putBack_1 rfl ?_
  refine g_getR (t2 := 43) (i2 := 0) dX7_putBack_2 fl_X7_64 (x_vM hn (Nat.le_of_ble_eq_true rfl) (Nat.le_of_ble_eq_true rfl)) rfl rfl rfl ?_
  refine g_iconst dX7_putBack_5 ?_
  refine f_Vv dX7_putBack_6 cs_X7_198 mb_X7_takes (c_X7_takes_43 l n _ 0 hn (Nat.le_of_ble_eq_true rfl) (by decide)) rfl (x_vM hn (Nat.le_of_ble_eq_true rfl) (Nat.le_of_ble_eq_true rfl)) rfl rfl rfl (Nat.le_of_ble_eq_true rfl) (by decide) (Nat.le_of_ble_eq_true rfl) (Nat.le_refl _) (Nat.le_refl _) ?_
  exact f_vret dX7_putBack_9 rfl rfl

def RS_X7_notes_11 (u : Nat) : Nat → Nat → xMi → xMi
  | 0, e, σ => (x_up (S_X7_lays_42 (x_up σ 24 0 29 ((σ 24 0 29) - 1)) (52 * 7)) 24 0 29 (((S_X7_lays_42 (x_up σ 24 0 29 ((σ 24 0 29) - 1)) (52 * 7)) 24 0 29) + 1))
  | k + 1, e, σ => (RS_X7_notes_11 u k (e + 1) (x_up σ 42 0 e (σ 42 0 (e + 52))) )
theorem fr_RS_X7_notes_11 (u : Nat) {t i k' : Nat} (h : ¬ ((t = 24 ∧ k' = 29) ∨ t = 42)) : ∀ (k e : Nat) (σ : xMi) , RS_X7_notes_11 u k e σ  t i k' = σ t i k' := by
  intro k
  induction k with
  | zero =>
    intro e σ 
    simp only [RS_X7_notes_11]
    all_goals ((repeat' split) <;> simp (disch := first | omega | assumption) only [x_up_o, x_up_k, x_cp_o, fr_S_X7_lays_42])
  | succ k ih =>
    intro e σ 
    simp only [RS_X7_notes_11]
    all_goals (repeat' split)
    all_goals (first | rw [ih] | skip)
    all_goals first | done | simp (disch := first | omega | assumption) only [x_up_o, x_up_k, x_cp_o]
theorem lh_X7_notes_11 (l : Launch) (n : Nat)  (u : Nat) (hn : 154 ≤ n) (hu8 : u ≤ 8) : ∀ (k e : Nat) (σ : xMi) , e + k = 364 ∧ u = 8 → (σ 24 0 29 = (u : Int)) →  x_G l RX7 cX7_notes 2 none 1 n none (RS_X7_notes_11 u k e σ ) 11 [(1, xI (e : Int)), (0, xR 24 0)] [] σ := by
  intro k
  induction k with
  | zero =>
    intro e σ  hk hu
    refine g_iload_n dX7_notes_11 rfl ?_
    refine g_sipush dX7_notes_12 (by decide) ?_
    refine g_cmp_ge 39 dX7_notes_15 rfl (fun c_15 => ?_) (fun c_15 => absurd (by rw [show x_wr 364 = 364 from by decide, x_nat (by omega)]; omega) c_15)
    refine g_aload_n dX7_notes_39 rfl ?_
    refine g_dup dX7_notes_40 rfl ?_
    refine g_getI dX7_notes_41 fl_X7_145 (x_vM hn (Nat.le_of_ble_eq_true rfl) (Nat.le_of_ble_eq_true rfl)) rfl rfl ?_
    refine g_iconst dX7_notes_44 ?_
    refine g_isub dX7_notes_45 ?_
    refine g_putI dX7_notes_46 fl_X7_145 (x_vM hn (Nat.le_of_ble_eq_true rfl) (Nat.le_of_ble_eq_true rfl)) rfl rfl ?_
    refine g_aload_n dX7_notes_49 rfl ?_
    refine g_aload_n dX7_notes_50 rfl ?_
    refine g_getR (t2 := 42) (i2 := 0) dX7_notes_51 fl_X7_61 (x_vM hn (Nat.le_of_ble_eq_true rfl) (Nat.le_of_ble_eq_true rfl)) rfl rfl rfl ?_
    refine g_bipush dX7_notes_54 (by decide) ?_
    refine g_aload_n dX7_notes_56 rfl ?_
    refine g_getI dX7_notes_57 fl_X7_145 (x_vM hn (Nat.le_of_ble_eq_true rfl) (Nat.le_of_ble_eq_true rfl)) rfl rfl ?_
    refine g_imul dX7_notes_60 ?_
    refine g_eqI ((52 * 7 : Nat) : Int) (by simp [x_up, hu, hk.2]) ?_
    refine f_Vv dX7_notes_61 cs_X7_169 mb_X7_lays (c_X7_lays_42 l n _ (52 * 7) hn (by decide) (by omega)) rfl (x_vM hn (Nat.le_of_ble_eq_true rfl) (Nat.le_of_ble_eq_true rfl)) rfl rfl rfl (Nat.le_of_ble_eq_true rfl) (by decide) (Nat.le_of_ble_eq_true rfl) (Nat.le_refl _) (Nat.le_refl _) ?_
    refine g_aload_n dX7_notes_64 rfl ?_
    refine g_dup dX7_notes_65 rfl ?_
    refine g_getI dX7_notes_66 fl_X7_145 (x_vM hn (Nat.le_of_ble_eq_true rfl) (Nat.le_of_ble_eq_true rfl)) rfl rfl ?_
    refine g_iconst dX7_notes_69 ?_
    refine g_iadd dX7_notes_70 ?_
    refine g_putI dX7_notes_71 fl_X7_145 (x_vM hn (Nat.le_of_ble_eq_true rfl) (Nat.le_of_ble_eq_true rfl)) rfl rfl ?_
    exact f_vret dX7_notes_74 rfl rfl
  | succ k ih =>
    intro e σ  hk hu
    refine g_iload_n dX7_notes_11 rfl ?_
    refine g_sipush dX7_notes_12 (by decide) ?_
    refine g_cmp_ge 39 dX7_notes_15 rfl (fun c_15 => absurd c_15 (by rw [show x_wr 364 = 364 from by decide, x_nat (by omega)]; omega)) (fun c_15 => ?_)
    refine g_aload_n dX7_notes_18 rfl ?_
    refine g_getR (t2 := 42) (i2 := 0) dX7_notes_19 fl_X7_61 (x_vM hn (Nat.le_of_ble_eq_true rfl) (Nat.le_of_ble_eq_true rfl)) rfl rfl rfl ?_
    refine g_iload_n dX7_notes_22 rfl ?_
    refine g_aload_n dX7_notes_23 rfl ?_
    refine g_getR (t2 := 42) (i2 := 0) dX7_notes_24 fl_X7_61 (x_vM hn (Nat.le_of_ble_eq_true rfl) (Nat.le_of_ble_eq_true rfl)) rfl rfl rfl ?_
    refine g_iload_n dX7_notes_27 rfl ?_
    refine g_bipush dX7_notes_28 (by decide) ?_
    refine g_iadd dX7_notes_30 ?_
    refine g_eqI (((e + 52) : Nat) : Int) rfl ?_
    refine g_iald (e + 52) dX7_notes_31 rfl (show (e + 52) < 416 by omega) (x_vM hn (Nat.le_of_ble_eq_true rfl) (Nat.le_of_ble_eq_true rfl)) rfl ?_
    refine g_iast e dX7_notes_32 rfl (show e < 416 by omega) (x_vM hn (Nat.le_of_ble_eq_true rfl) (Nat.le_of_ble_eq_true rfl)) rfl ?_
    refine g_iinc (lv' := [(1, xI (((e + 1) : Nat) : Int)), _]) dX7_notes_33 (Nat.le_of_ble_eq_true rfl) rfl rfl ?_
    refine g_goto 11 dX7_notes_36 rfl ?_
    refine g_sub (lv2 := [(1, xI (((e + 1) : Nat) : Int)), _]) [0, 1] rfl ?_
    exact f_cv rfl rfl (ih (e + 1) _  (by omega) (by first | exact hu | (simp (disch := omega) only [x_up_o, x_up_k, x_cp_o]; exact hu) | (simp (disch := first | omega | assumption) only [x_up_o, x_up_k, x_cp_o]; exact hu)))
def S_X7_notes (σ : xMi) (u : Nat) : xMi := (if x_wr (σ 24 0 29) = x_wr 8 then (RS_X7_notes_11 u 364 0 σ ) else (x_up (S_X7_lays_42 σ (52 * u)) 24 0 29 (((S_X7_lays_42 σ (52 * u)) 24 0 29) + 1)))
theorem fr_S_X7_notes (σ : xMi) (u : Nat) {t i k : Nat} (h : ¬ ((t = 24 ∧ k = 29) ∨ t = 42)) : S_X7_notes σ u t i k = σ t i k := by
  unfold S_X7_notes
  all_goals ((repeat' split) <;> first | rfl | simp (disch := first | omega | assumption) only [x_up_o, x_up_k, x_cp_o, fr_RS_X7_notes_11, fr_S_X7_lays_42])
theorem c_X7_notes (l : Launch) (n : Nat) (σ : xMi)  (u : Nat) (hn : 154 ≤ n) (hu8 : u ≤ 8) (hu : σ 24 0 29 = (u : Int)) : x_F l yX7_notes RX7 cX7_notes 2 none 1 n σ [xR 24 0] none (S_X7_notes σ u) := by
  refine f_of (by decide) rfl (Nat.le_of_ble_eq_true rfl) rfl ?_
  refine g_aload_n dX7_notes_0 rfl ?_
  refine g_getI dX7_notes_1 fl_X7_145 (x_vM hn (Nat.le_of_ble_eq_true rfl) (Nat.le_of_ble_eq_true rfl)) rfl rfl ?_
  refine g_bipush dX7_notes_4 (by decide) ?_
  refine g_cmp_ne 49 dX7_notes_6 rfl (fun c_6 => ?_) (fun c_6 => ?_)
  · refine g_aload_n dX7_notes_49 rfl ?_
    refine g_aload_n dX7_notes_50 rfl ?_
    refine g_getR (t2 := 42) (i2 := 0) dX7_notes_51 fl_X7_61 (x_vM hn (Nat.le_of_ble_eq_true rfl) (Nat.le_of_ble_eq_true rfl)) rfl rfl rfl ?_
    refine g_bipush dX7_notes_54 (by decide) ?_
    refine g_aload_n dX7_notes_56 rfl ?_
    refine g_getI dX7_notes_57 fl_X7_145 (x_vM hn (Nat.le_of_ble_eq_true rfl) (Nat.le_of_ble_eq_true rfl)) rfl rfl ?_
    refine g_imul dX7_notes_60 ?_
    have hu7 : u < 8 := by rw [hu, x_nat (by omega), show x_wr 8 = 8 from by decide] at c_6; omega
    refine g_eqI ((52 * u : Nat) : Int) (by rw [hu]; simp) ?_
    refine f_Vv dX7_notes_61 cs_X7_169 mb_X7_lays (c_X7_lays_42 l n _ (52 * u) hn (by omega) (by omega)) rfl (x_vM hn (Nat.le_of_ble_eq_true rfl) (Nat.le_of_ble_eq_true rfl)) rfl rfl rfl (Nat.le_of_ble_eq_true rfl) (by decide) (Nat.le_of_ble_eq_true rfl) (Nat.le_refl _) (Nat.le_refl _) ?_
    refine g_aload_n dX7_notes_64 rfl ?_
    refine g_dup dX7_notes_65 rfl ?_
    refine g_getI dX7_notes_66 fl_X7_145 (x_vM hn (Nat.le_of_ble_eq_true rfl) (Nat.le_of_ble_eq_true rfl)) rfl rfl ?_
    refine g_iconst dX7_notes_69 ?_
    refine g_iadd dX7_notes_70 ?_
    refine g_putI dX7_notes_71 fl_X7_145 (x_vM hn (Nat.le_of_ble_eq_true rfl) (Nat.le_of_ble_eq_true rfl)) rfl rfl ?_
    exact f_vret dX7_notes_74 rfl (by rw [S_X7_notes, if_neg c_6])
  · refine g_iconst dX7_notes_9 ?_
    refine g_istore_n (lv' := [_, _]) dX7_notes_10 (Nat.le_of_ble_eq_true rfl) rfl ?_
    refine g_sub (lv2 := [(1, xI ((0 : Nat) : Int)), _]) [0, 1] rfl ?_
    exact f_cv rfl (by rw [S_X7_notes, if_pos c_6]) (lh_X7_notes_11 l n u hn hu8 364 0 _  (by rw [hu, x_nat (by omega), show x_wr 8 = 8 from by decide] at c_6; omega) hu)

theorem l_isOne {σ : xMi} {a : Int} {K : Nat} (ha : x_wr a = a) (hK : K ≤ 6) (hmy : σ 24 0 0 = (K : Int)) (h : ¬ x_wr (V_X7_isOne σ a) = 0) : a = ((a.toNat : Nat) : Int) ∧ a.toNat < K ∧ a.toNat < 6 := by
  unfold V_X7_isOne V_X7_in at h
  rw [ha, hmy, x_wr_of (a := (K : Int) - 1) (by omega) (by omega), show x_wr 0 = 0 from by decide] at h
  split at h
  · exact absurd (by decide) h
  · split at h
    · exact absurd (by decide) h
    · omega
theorem l_in {σ : xMi} {a lo hi : Int} (ha : x_wr a = a) (h : ¬ x_wr (V_X7_in σ a lo hi) = 0) : x_wr lo ≤ a ∧ a ≤ x_wr hi := by
  unfold V_X7_in at h
  rw [ha] at h
  split at h
  · exact absurd (by decide) h
  · split at h
    · exact absurd (by decide) h
    · omega
def V_X7_person (σ : xMi) (p1 : Int) (w1 : Int) (K : Nat) : Int := (if x_wr (V_X7_isOne σ p1) = 0 then (-1) else (if x_wr (V_X7_in σ w1 0 10) = 0 then (-1) else (V_X7_personTells σ (p1.toNat) w1)))
theorem c_X7_person (l : Launch) (n : Nat) (σ : xMi) (p1 : Int) (w1 : Int) (K : Nat) (hn : 154 ≤ n) (hK : K ≤ 6) (h1w : x_wr p1 = p1) (hmy : σ 24 0 0 = (K : Int)) : x_F l yX7_person RX7 cX7_person 3 (some .int) 2 n σ [xR 24 0, xI p1, xI w1] (some (xI (V_X7_person σ p1 w1 K))) σ := by
  refine f_of (by decide) rfl (Nat.le_of_ble_eq_true rfl) rfl ?_
  refine g_aload_n dX7_person_0 rfl ?_
  refine g_iload_n dX7_person_1 rfl ?_
  refine f_V dX7_person_2 cs_X7_162 mb_X7_isOne (c_X7_isOne l n _ p1 hn) rfl (x_vM hn (Nat.le_of_ble_eq_true rfl) (Nat.le_of_ble_eq_true rfl)) rfl rfl rfl (Nat.le_of_ble_eq_true rfl) (by decide) (Nat.le_of_ble_eq_true rfl) (Nat.le_refl _) (Nat.le_refl _) ?_
  refine g_if_eq 27 dX7_person_5 rfl (fun c_5 => ?_) (fun c_5 => ?_)
  · refine g_iconst dX7_person_27 ?_
    exact f_iret dX7_person_28 (by rw [V_X7_person, if_pos c_5]) rfl
  · refine g_iload_n dX7_person_8 rfl ?_
    refine g_iconst dX7_person_9 ?_
    refine g_bipush dX7_person_10 (by decide) ?_
    refine f_S dX7_person_12 cs_X7_100 mb_X7_in (c_X7_in l n _ w1 0 10 hn) rfl (Nat.lt_of_lt_of_le (by decide) hn) rfl (Nat.le_of_ble_eq_true rfl) (by decide) (Nat.le_of_ble_eq_true rfl) (Nat.le_refl _) (Nat.le_refl _) ?_
    refine g_if_eq 27 dX7_person_15 rfl (fun c_15 => ?_) (fun c_15 => ?_)
    · refine g_iconst dX7_person_27 ?_
      exact f_iret dX7_person_28 (by rw [V_X7_person, if_neg c_5, if_pos c_15]) rfl
    · have hP := l_isOne h1w hK hmy c_5
      have hP6 := hP.2.2
      refine g_lveq (lv2 := [(0, xR 24 0), (1, xI ((p1.toNat : Nat) : Int)), (2, xI w1)]) (by rw [← hP.1] <;> rfl) ?_
      refine g_aload_n dX7_person_18 rfl ?_
      refine g_iload_n dX7_person_19 rfl ?_
      refine g_iload_n dX7_person_20 rfl ?_
      refine f_V dX7_person_21 cs_X7_166 mb_X7_personTells (c_X7_personTells l n _ (p1.toNat) w1 hn hP6) rfl (x_vM hn (Nat.le_of_ble_eq_true rfl) (Nat.le_of_ble_eq_true rfl)) rfl rfl rfl (Nat.le_of_ble_eq_true rfl) (by decide) (Nat.le_of_ble_eq_true rfl) (Nat.le_refl _) (Nat.le_refl _) ?_
      refine g_goto 28 dX7_person_24 rfl ?_
      exact f_iret dX7_person_28 (by rw [V_X7_person, if_neg c_5, if_neg c_15]) rfl

def V_X7_send (σ : xMi) (p1 : Int) (K : Nat) (u : Nat) : Int := (if x_wr (V_X7_isOne σ p1) = 0 then (-1) else (if x_wr (V_X7_maySend σ (p1.toNat)) = 0 then (-2) else ((S_X7_sends (S_X7_notes σ u) (p1.toNat)) 30 0 (p1.toNat))))
def S_X7_send (σ : xMi) (p1 : Int) (K : Nat) (u : Nat) : xMi := (if x_wr (V_X7_isOne σ p1) = 0 then σ else (if x_wr (V_X7_maySend σ (p1.toNat)) = 0 then σ else (S_X7_sends (S_X7_notes σ u) (p1.toNat))))
theorem c_X7_send (l : Launch) (n : Nat) (σ : xMi) (p1 : Int) (K : Nat) (u : Nat) (hn : 154 ≤ n) (hK : K ≤ 6) (hu8 : u ≤ 8) (h1w : x_wr p1 = p1) (hmy : σ 24 0 0 = (K : Int)) (hu : σ 24 0 29 = (u : Int)) : x_F l yX7_send RX7 cX7_send 2 (some .int) 2 n σ [xR 24 0, xI p1] (some (xI (V_X7_send σ p1 K u))) (S_X7_send σ p1 K u) := by
  refine f_of (by decide) rfl (Nat.le_of_ble_eq_true rfl) rfl ?_
  refine g_aload_n dX7_send_0 rfl ?_
  refine g_iload_n dX7_send_1 rfl ?_
  refine f_V dX7_send_2 cs_X7_162 mb_X7_isOne (c_X7_isOne l n _ p1 hn) rfl (x_vM hn (Nat.le_of_ble_eq_true rfl) (Nat.le_of_ble_eq_true rfl)) rfl rfl rfl (Nat.le_of_ble_eq_true rfl) (by decide) (Nat.le_of_ble_eq_true rfl) (Nat.le_refl _) (Nat.le_refl _) ?_
  refine g_if_ne 10 dX7_send_5 rfl (fun c_5 => ?_) (fun c_5 => ?_)
  · have hP := l_isOne h1w hK hmy c_5
    have hP6 := hP.2.2
    refine g_lveq (lv2 := [(0, xR 24 0), (1, xI ((p1.toNat : Nat) : Int))]) (by rw [← hP.1] <;> rfl) ?_
    refine g_aload_n dX7_send_10 rfl ?_
    refine g_iload_n dX7_send_11 rfl ?_
    refine f_V dX7_send_12 cs_X7_182 mb_X7_maySend (c_X7_maySend l n _ (p1.toNat) hn hP6) rfl (x_vM hn (Nat.le_of_ble_eq_true rfl) (Nat.le_of_ble_eq_true rfl)) rfl rfl rfl (Nat.le_of_ble_eq_true rfl) (by decide) (Nat.le_of_ble_eq_true rfl) (Nat.le_refl _) (Nat.le_refl _) ?_
    refine g_if_ne 21 dX7_send_15 rfl (fun c_15 => ?_) (fun c_15 => ?_)
    · refine g_aload_n dX7_send_21 rfl ?_
      refine f_Vv dX7_send_22 cs_X7_185 mb_X7_notes (c_X7_notes l n _ u hn hu8 hu) rfl (x_vM hn (Nat.le_of_ble_eq_true rfl) (Nat.le_of_ble_eq_true rfl)) rfl rfl rfl (Nat.le_of_ble_eq_true rfl) (by decide) (Nat.le_of_ble_eq_true rfl) (Nat.le_refl _) (Nat.le_refl _) ?_
      refine g_aload_n dX7_send_25 rfl ?_
      refine g_iload_n dX7_send_26 rfl ?_
      refine f_Vv dX7_send_27 cs_X7_188 mb_X7_sends (c_X7_sends l n _ (p1.toNat) hn hP6) rfl (x_vM hn (Nat.le_of_ble_eq_true rfl) (Nat.le_of_ble_eq_true rfl)) rfl rfl rfl (Nat.le_of_ble_eq_true rfl) (by decide) (Nat.le_of_ble_eq_true rfl) (Nat.le_refl _) (Nat.le_refl _) ?_
      refine g_aload_n dX7_send_30 rfl ?_
      refine g_getR (t2 := 30) (i2 := 0) dX7_send_31 fl_X7_25 (x_vM hn (Nat.le_of_ble_eq_true rfl) (Nat.le_of_ble_eq_true rfl)) rfl rfl rfl ?_
      refine g_iload_n dX7_send_34 rfl ?_
      refine g_iald (p1.toNat) dX7_send_35 rfl hP6 (x_vM hn (Nat.le_of_ble_eq_true rfl) (Nat.le_of_ble_eq_true rfl)) rfl ?_
      exact f_iret dX7_send_36 (by rw [V_X7_send, if_neg c_5, if_neg c_15]) (by rw [S_X7_send, if_neg c_5, if_neg c_15])
    · refine g_bipush dX7_send_18 (by decide) ?_
      exact f_iret dX7_send_20 (by rw [V_X7_send, if_neg c_5, if_pos c_15]) (by rw [S_X7_send, if_neg c_5, if_pos c_15])
  · refine g_iconst dX7_send_8 ?_
    exact f_iret dX7_send_9 (by rw [V_X7_send, if_pos c_5]) (by rw [S_X7_send, if_pos c_5])

def V_X7_call (σ : xMi) (p1 : Int) (K : Nat) (u : Nat) : Int := (if x_wr (V_X7_isOne σ p1) = 0 then (-1) else (if x_wr (σ 29 0 (p1.toNat)) = 0 then (-2) else ((S_X7_calls (S_X7_notes σ u) (p1.toNat)) 24 0 6)))
def S_X7_call (σ : xMi) (p1 : Int) (K : Nat) (u : Nat) : xMi := (if x_wr (V_X7_isOne σ p1) = 0 then σ else (if x_wr (σ 29 0 (p1.toNat)) = 0 then σ else (S_X7_calls (S_X7_notes σ u) (p1.toNat))))
theorem c_X7_call (l : Launch) (n : Nat) (σ : xMi) (p1 : Int) (K : Nat) (u : Nat) (hn : 154 ≤ n) (hK : K ≤ 6) (hu8 : u ≤ 8) (h1w : x_wr p1 = p1) (hmy : σ 24 0 0 = (K : Int)) (hu : σ 24 0 29 = (u : Int)) : x_F l yX7_call RX7 cX7_call 2 (some .int) 2 n σ [xR 24 0, xI p1] (some (xI (V_X7_call σ p1 K u))) (S_X7_call σ p1 K u) := by
  refine f_of (by decide) rfl (Nat.le_of_ble_eq_true rfl) rfl ?_
  refine g_aload_n dX7_call_0 rfl ?_
  refine g_iload_n dX7_call_1 rfl ?_
  refine f_V dX7_call_2 cs_X7_162 mb_X7_isOne (c_X7_isOne l n _ p1 hn) rfl (x_vM hn (Nat.le_of_ble_eq_true rfl) (Nat.le_of_ble_eq_true rfl)) rfl rfl rfl (Nat.le_of_ble_eq_true rfl) (by decide) (Nat.le_of_ble_eq_true rfl) (Nat.le_refl _) (Nat.le_refl _) ?_
  refine g_if_ne 10 dX7_call_5 rfl (fun c_5 => ?_) (fun c_5 => ?_)
  · have hP := l_isOne h1w hK hmy c_5
    have hP6 := hP.2.2
    refine g_lveq (lv2 := [(0, xR 24 0), (1, xI ((p1.toNat : Nat) : Int))]) (by rw [← hP.1] <;> rfl) ?_
    refine g_aload_n dX7_call_10 rfl ?_
    refine g_getR (t2 := 29) (i2 := 0) dX7_call_11 fl_X7_22 (x_vM hn (Nat.le_of_ble_eq_true rfl) (Nat.le_of_ble_eq_true rfl)) rfl rfl rfl ?_
    refine g_iload_n dX7_call_14 rfl ?_
    refine g_iald (p1.toNat) dX7_call_15 rfl hP6 (x_vM hn (Nat.le_of_ble_eq_true rfl) (Nat.le_of_ble_eq_true rfl)) rfl ?_
    refine g_if_ne 22 dX7_call_16 rfl (fun c_16 => ?_) (fun c_16 => ?_)
    · refine g_aload_n dX7_call_22 rfl ?_
      refine f_Vv dX7_call_23 cs_X7_185 mb_X7_notes (c_X7_notes l n _ u hn hu8 hu) rfl (x_vM hn (Nat.le_of_ble_eq_true rfl) (Nat.le_of_ble_eq_true rfl)) rfl rfl rfl (Nat.le_of_ble_eq_true rfl) (by decide) (Nat.le_of_ble_eq_true rfl) (Nat.le_refl _) (Nat.le_refl _) ?_
      refine g_aload_n dX7_call_26 rfl ?_
      refine g_iload_n dX7_call_27 rfl ?_
      refine f_Vv dX7_call_28 cs_X7_191 mb_X7_calls (c_X7_calls l n _ (p1.toNat) hn hP6) rfl (x_vM hn (Nat.le_of_ble_eq_true rfl) (Nat.le_of_ble_eq_true rfl)) rfl rfl rfl (Nat.le_of_ble_eq_true rfl) (by decide) (Nat.le_of_ble_eq_true rfl) (Nat.le_refl _) (Nat.le_refl _) ?_
      refine g_aload_n dX7_call_31 rfl ?_
      refine g_getI dX7_call_32 fl_X7_91 (x_vM hn (Nat.le_of_ble_eq_true rfl) (Nat.le_of_ble_eq_true rfl)) rfl rfl ?_
      exact f_iret dX7_call_35 (by rw [V_X7_call, if_neg c_5, if_neg c_16]) (by rw [S_X7_call, if_neg c_5, if_neg c_16])
    · refine g_bipush dX7_call_19 (by decide) ?_
      exact f_iret dX7_call_21 (by rw [V_X7_call, if_neg c_5, if_pos c_16]) (by rw [S_X7_call, if_neg c_5, if_pos c_16])
  · refine g_iconst dX7_call_8 ?_
    exact f_iret dX7_call_9 (by rw [V_X7_call, if_pos c_5]) (by rw [S_X7_call, if_pos c_5])

def V_X7_buy (σ : xMi) (u : Nat) : Int := (if x_wr (σ 24 0 6) = x_wr 20 then (-3) else ((x_up (S_X7_notes σ u) 24 0 6 (((S_X7_notes σ u) 24 0 6) + 1)) 24 0 6))
def S_X7_buy (σ : xMi) (u : Nat) : xMi := (if x_wr (σ 24 0 6) = x_wr 20 then σ else (x_up (S_X7_notes σ u) 24 0 6 (((S_X7_notes σ u) 24 0 6) + 1)))
theorem c_X7_buy (l : Launch) (n : Nat) (σ : xMi)  (u : Nat) (hn : 154 ≤ n) (hu8 : u ≤ 8) (hu : σ 24 0 29 = (u : Int)) : x_F l yX7_buy RX7 cX7_buy 1 (some .int) 2 n σ [xR 24 0] (some (xI (V_X7_buy σ u))) (S_X7_buy σ u) := by
  refine f_of (by decide) rfl (Nat.le_of_ble_eq_true rfl) rfl ?_
  refine g_aload_n dX7_buy_0 rfl ?_
  refine g_getI dX7_buy_1 fl_X7_91 (x_vM hn (Nat.le_of_ble_eq_true rfl) (Nat.le_of_ble_eq_true rfl)) rfl rfl ?_
  refine g_bipush dX7_buy_4 (by decide) ?_
  refine g_cmp_ne 12 dX7_buy_6 rfl (fun c_6 => ?_) (fun c_6 => ?_)
  · refine g_aload_n dX7_buy_12 rfl ?_
    refine f_Vv dX7_buy_13 cs_X7_185 mb_X7_notes (c_X7_notes l n _ u hn hu8 hu) rfl (x_vM hn (Nat.le_of_ble_eq_true rfl) (Nat.le_of_ble_eq_true rfl)) rfl rfl rfl (Nat.le_of_ble_eq_true rfl) (by decide) (Nat.le_of_ble_eq_true rfl) (Nat.le_refl _) (Nat.le_refl _) ?_
    refine g_aload_n dX7_buy_16 rfl ?_
    refine g_dup dX7_buy_17 rfl ?_
    refine g_getI dX7_buy_18 fl_X7_91 (x_vM hn (Nat.le_of_ble_eq_true rfl) (Nat.le_of_ble_eq_true rfl)) rfl rfl ?_
    refine g_iconst dX7_buy_21 ?_
    refine g_iadd dX7_buy_22 ?_
    refine g_putI dX7_buy_23 fl_X7_91 (x_vM hn (Nat.le_of_ble_eq_true rfl) (Nat.le_of_ble_eq_true rfl)) rfl rfl ?_
    refine g_aload_n dX7_buy_26 rfl ?_
    refine g_getI dX7_buy_27 fl_X7_91 (x_vM hn (Nat.le_of_ble_eq_true rfl) (Nat.le_of_ble_eq_true rfl)) rfl rfl ?_
    exact f_iret dX7_buy_30 (by rw [V_X7_buy, if_neg c_6]) (by rw [S_X7_buy, if_neg c_6])
  · refine g_bipush dX7_buy_9 (by decide) ?_
    exact f_iret dX7_buy_11 (by rw [V_X7_buy, if_pos c_6]) (by rw [S_X7_buy, if_pos c_6])

def V_X7_pass (σ : xMi) (n1 : Int) (K : Nat) (u : Nat) : Int := (if x_wr (V_X7_in σ n1 1 20) = 0 then (-1) else (if x_wr ((σ 24 0 5) + n1) ≤ x_wr 999 then (V_X7_goesOn (S_X7_notes σ u) (n1.toNat) K) else (-2)))
def S_X7_pass (σ : xMi) (n1 : Int) (K : Nat) (u : Nat) : xMi := (if x_wr (V_X7_in σ n1 1 20) = 0 then σ else (if x_wr ((σ 24 0 5) + n1) ≤ x_wr 999 then (S_X7_goesOn (S_X7_notes σ u) (n1.toNat) K) else σ))
theorem c_X7_pass (l : Launch) (n : Nat) (σ : xMi) (n1 : Int) (K : Nat) (u : Nat) (hn : 154 ≤ n) (hK : K ≤ 6) (hu8 : u ≤ 8) (h1w : x_wr n1 = n1) (hmy : σ 24 0 0 = (K : Int)) (hu : σ 24 0 29 = (u : Int)) : x_F l yX7_pass RX7 cX7_pass 2 (some .int) 4 n σ [xR 24 0, xI n1] (some (xI (V_X7_pass σ n1 K u))) (S_X7_pass σ n1 K u) := by
  refine f_of (by decide) rfl (Nat.le_of_ble_eq_true rfl) rfl ?_
  refine g_iload_n dX7_pass_0 rfl ?_
  refine g_iconst dX7_pass_1 ?_
  refine g_bipush dX7_pass_2 (by decide) ?_
  refine f_S dX7_pass_4 cs_X7_100 mb_X7_in (c_X7_in l n _ n1 1 20 hn) rfl (Nat.lt_of_lt_of_le (by decide) hn) rfl (Nat.le_of_ble_eq_true rfl) (by decide) (Nat.le_of_ble_eq_true rfl) (Nat.le_refl _) (Nat.le_refl _) ?_
  refine g_if_ne 12 dX7_pass_7 rfl (fun c_7 => ?_) (fun c_7 => ?_)
  · refine g_aload_n dX7_pass_12 rfl ?_
    refine g_getI dX7_pass_13 fl_X7_88 (x_vM hn (Nat.le_of_ble_eq_true rfl) (Nat.le_of_ble_eq_true rfl)) rfl rfl ?_
    refine g_iload_n dX7_pass_16 rfl ?_
    refine g_iadd dX7_pass_17 ?_
    refine g_sipush dX7_pass_18 (by decide) ?_
    refine g_cmp_le 27 dX7_pass_21 rfl (fun c_21 => ?_) (fun c_21 => ?_)
    · have hN : n1 = ((n1.toNat : Nat) : Int) ∧ n1.toNat ≤ 20 := by have h9 := l_in h1w c_7; rw [show x_wr 1 = 1 from by decide, show x_wr 20 = 20 from by decide] at h9; omega
      refine g_lveq (lv2 := [(0, xR 24 0), (1, xI ((n1.toNat : Nat) : Int))]) (by rw [← hN.1] <;> rfl) ?_
      refine g_aload_n dX7_pass_27 rfl ?_
      refine f_Vv dX7_pass_28 cs_X7_185 mb_X7_notes (c_X7_notes l n _ u hn hu8 hu) rfl (x_vM hn (Nat.le_of_ble_eq_true rfl) (Nat.le_of_ble_eq_true rfl)) rfl rfl rfl (Nat.le_of_ble_eq_true rfl) (by decide) (Nat.le_of_ble_eq_true rfl) (Nat.le_refl _) (Nat.le_refl _) ?_
      refine g_aload_n dX7_pass_31 rfl ?_
      refine g_iload_n dX7_pass_32 rfl ?_
      refine f_V dX7_pass_33 cs_X7_194 mb_X7_goesOn (c_X7_goesOn l n _ (n1.toNat) K hn (by omega) hK (by first | exact hmy | (simp (disch := first | omega | assumption) only [x_up_o, x_up_k, x_cp_o, fr_S_X7_notes]; exact hmy))) rfl (x_vM hn (Nat.le_of_ble_eq_true rfl) (Nat.le_of_ble_eq_true rfl)) rfl rfl rfl (Nat.le_of_ble_eq_true rfl) (by decide) (Nat.le_of_ble_eq_true rfl) (Nat.le_refl _) (Nat.le_refl _) ?_
      exact f_iret dX7_pass_36 (by rw [V_X7_pass, if_neg c_7, if_pos c_21]) (by rw [S_X7_pass, if_neg c_7, if_pos c_21])
    · refine g_bipush dX7_pass_24 (by decide) ?_
      exact f_iret dX7_pass_26 (by rw [V_X7_pass, if_neg c_7, if_neg c_21]) (by rw [S_X7_pass, if_neg c_7, if_neg c_21])
  · refine g_iconst dX7_pass_10 ?_
    exact f_iret dX7_pass_11 (by rw [V_X7_pass, if_pos c_7]) (by rw [S_X7_pass, if_pos c_7])

def V_X7_undo (σ : xMi) (u : Nat) : Int := (if x_wr (σ 24 0 29) = 0 then (-2) else ((S_X7_takes_42 (x_up σ 24 0 29 ((σ 24 0 29) - 1)) (52 * (u - 1))) 24 0 29))
def S_X7_undo (σ : xMi) (u : Nat) : xMi := (if x_wr (σ 24 0 29) = 0 then σ else (S_X7_takes_42 (x_up σ 24 0 29 ((σ 24 0 29) - 1)) (52 * (u - 1))))
theorem c_X7_undo (l : Launch) (n : Nat) (σ : xMi)  (u : Nat) (hn : 154 ≤ n) (hu8 : u ≤ 8) (hu : σ 24 0 29 = (u : Int)) : x_F l yX7_undo RX7 cX7_undo 1 (some .int) 1 n σ [xR 24 0] (some (xI (V_X7_undo σ u))) (S_X7_undo σ u) := by
  refine f_of (by decide) rfl (Nat.le_of_ble_eq_true rfl) rfl ?_
  refine g_aload_n dX7_undo_0 rfl ?_
  refine g_getI dX7_undo_1 fl_X7_145 (x_vM hn (Nat.le_of_ble_eq_true rfl) (Nat.le_of_ble_eq_true rfl)) rfl rfl ?_
  refine g_if_ne 10 dX7_undo_4 rfl (fun c_4 => ?_) (fun c_4 => ?_)
  · have hu0 : 0 < u := by rw [hu, x_nat (by omega)] at c_4; omega
    refine g_aload_n dX7_undo_10 rfl ?_
    refine g_dup dX7_undo_11 rfl ?_
    refine g_getI dX7_undo_12 fl_X7_145 (x_vM hn (Nat.le_of_ble_eq_true rfl) (Nat.le_of_ble_eq_true rfl)) rfl rfl ?_
    refine g_iconst dX7_undo_15 ?_
    refine g_isub dX7_undo_16 ?_
    refine g_putI dX7_undo_17 fl_X7_145 (x_vM hn (Nat.le_of_ble_eq_true rfl) (Nat.le_of_ble_eq_true rfl)) rfl rfl ?_
    refine g_aload_n dX7_undo_20 rfl ?_
    refine g_aload_n dX7_undo_21 rfl ?_
    refine g_getR (t2 := 42) (i2 := 0) dX7_undo_22 fl_X7_61 (x_vM hn (Nat.le_of_ble_eq_true rfl) (Nat.le_of_ble_eq_true rfl)) rfl rfl rfl ?_
    refine g_bipush dX7_undo_25 (by decide) ?_
    refine g_aload_n dX7_undo_27 rfl ?_
    refine g_getI dX7_undo_28 fl_X7_145 (x_vM hn (Nat.le_of_ble_eq_true rfl) (Nat.le_of_ble_eq_true rfl)) rfl rfl ?_
    refine g_imul dX7_undo_31 ?_
    refine g_eqI (((52 * (u - 1)) : Nat) : Int) (by simp only [x_up_s, if_pos, hu]; omega) ?_
    refine f_Vv dX7_undo_32 cs_X7_198 mb_X7_takes (c_X7_takes_42 l n _ (52 * (u - 1)) hn (by omega) (by omega)) rfl (x_vM hn (Nat.le_of_ble_eq_true rfl) (Nat.le_of_ble_eq_true rfl)) rfl rfl rfl (Nat.le_of_ble_eq_true rfl) (by decide) (Nat.le_of_ble_eq_true rfl) (Nat.le_refl _) (Nat.le_refl _) ?_
    refine g_aload_n dX7_undo_35 rfl ?_
    refine g_getI dX7_undo_36 fl_X7_145 (x_vM hn (Nat.le_of_ble_eq_true rfl) (Nat.le_of_ble_eq_true rfl)) rfl rfl ?_
    exact f_iret dX7_undo_39 (by rw [V_X7_undo, if_neg c_4]) (by rw [S_X7_undo, if_neg c_4])
  · refine g_bipush dX7_undo_7 (by decide) ?_
    exact f_iret dX7_undo_9 (by rw [V_X7_undo, if_pos c_4]) (by rw [S_X7_undo, if_pos c_4])

def V_X7_keep (σ : xMi) (v : Nat) : Int := (if x_wr (σ 24 0 35) = x_wr 2 then (-3) else ((x_up (S_X7_lays_46 σ (52 * v)) 24 0 35 (((S_X7_lays_46 σ (52 * v)) 24 0 35) + 1)) 24 0 35))
def S_X7_keep (σ : xMi) (v : Nat) : xMi := (if x_wr (σ 24 0 35) = x_wr 2 then σ else (x_up (S_X7_lays_46 σ (52 * v)) 24 0 35 (((S_X7_lays_46 σ (52 * v)) 24 0 35) + 1)))
theorem c_X7_keep (l : Launch) (n : Nat) (σ : xMi)  (v : Nat) (hn : 154 ≤ n) (hv2 : v ≤ 2) (hv : σ 24 0 35 = (v : Int)) : x_F l yX7_keep RX7 cX7_keep 1 (some .int) 1 n σ [xR 24 0] (some (xI (V_X7_keep σ v))) (S_X7_keep σ v) := by
  refine f_of (by decide) rfl (Nat.le_of_ble_eq_true rfl) rfl ?_
  refine g_aload_n dX7_keep_0 rfl ?_
  refine g_getI dX7_keep_1 fl_X7_148 (x_vM hn (Nat.le_of_ble_eq_true rfl) (Nat.le_of_ble_eq_true rfl)) rfl rfl ?_
  refine g_iconst dX7_keep_4 ?_
  refine g_cmp_ne 11 dX7_keep_5 rfl (fun c_5 => ?_) (fun c_5 => ?_)
  · have hv1 : v < 2 := by rw [hv, x_nat (by omega), show x_wr 2 = 2 from by decide] at c_5; omega
    refine g_aload_n dX7_keep_11 rfl ?_
    refine g_aload_n dX7_keep_12 rfl ?_
    refine g_getR (t2 := 46) (i2 := 0) dX7_keep_13 fl_X7_73 (x_vM hn (Nat.le_of_ble_eq_true rfl) (Nat.le_of_ble_eq_true rfl)) rfl rfl rfl ?_
    refine g_bipush dX7_keep_16 (by decide) ?_
    refine g_aload_n dX7_keep_18 rfl ?_
    refine g_getI dX7_keep_19 fl_X7_148 (x_vM hn (Nat.le_of_ble_eq_true rfl) (Nat.le_of_ble_eq_true rfl)) rfl rfl ?_
    refine g_imul dX7_keep_22 ?_
    refine g_eqI (((52 * v) : Nat) : Int) (by rw [hv]; omega) ?_
    refine f_Vv dX7_keep_23 cs_X7_169 mb_X7_lays (c_X7_lays_46 l n _ (52 * v) hn (by omega) (by omega)) rfl (x_vM hn (Nat.le_of_ble_eq_true rfl) (Nat.le_of_ble_eq_true rfl)) rfl rfl rfl (Nat.le_of_ble_eq_true rfl) (by decide) (Nat.le_of_ble_eq_true rfl) (Nat.le_refl _) (Nat.le_refl _) ?_
    refine g_aload_n dX7_keep_26 rfl ?_
    refine g_dup dX7_keep_27 rfl ?_
    refine g_getI dX7_keep_28 fl_X7_148 (x_vM hn (Nat.le_of_ble_eq_true rfl) (Nat.le_of_ble_eq_true rfl)) rfl rfl ?_
    refine g_iconst dX7_keep_31 ?_
    refine g_iadd dX7_keep_32 ?_
    refine g_putI dX7_keep_33 fl_X7_148 (x_vM hn (Nat.le_of_ble_eq_true rfl) (Nat.le_of_ble_eq_true rfl)) rfl rfl ?_
    refine g_aload_n dX7_keep_36 rfl ?_
    refine g_getI dX7_keep_37 fl_X7_148 (x_vM hn (Nat.le_of_ble_eq_true rfl) (Nat.le_of_ble_eq_true rfl)) rfl rfl ?_
    exact f_iret dX7_keep_40 (by rw [V_X7_keep, if_neg c_5]) (by rw [S_X7_keep, if_neg c_5])
  · refine g_bipush dX7_keep_8 (by decide) ?_
    exact f_iret dX7_keep_10 (by rw [V_X7_keep, if_pos c_5]) (by rw [S_X7_keep, if_pos c_5])

def V_X7_back (σ : xMi) (v : Nat) : Int := (if x_wr (σ 24 0 35) = 0 then (-2) else ((x_up (S_X7_takes_46 (x_up σ 24 0 35 ((σ 24 0 35) - 1)) (52 * (v - 1))) 24 0 29 0) 24 0 35))
def S_X7_back (σ : xMi) (v : Nat) : xMi := (if x_wr (σ 24 0 35) = 0 then σ else (x_up (S_X7_takes_46 (x_up σ 24 0 35 ((σ 24 0 35) - 1)) (52 * (v - 1))) 24 0 29 0))
theorem c_X7_back (l : Launch) (n : Nat) (σ : xMi)  (v : Nat) (hn : 154 ≤ n) (hv2 : v ≤ 2) (hv : σ 24 0 35 = (v : Int)) : x_F l yX7_back RX7 cX7_back 1 (some .int) 1 n σ [xR 24 0] (some (xI (V_X7_back σ v))) (S_X7_back σ v) := by
  refine f_of (by decide) rfl (Nat.le_of_ble_eq_true rfl) rfl ?_
  refine g_aload_n dX7_back_0 rfl ?_
  refine g_getI dX7_back_1 fl_X7_148 (x_vM hn (Nat.le_of_ble_eq_true rfl) (Nat.le_of_ble_eq_true rfl)) rfl rfl ?_
  refine g_if_ne 10 dX7_back_4 rfl (fun c_4 => ?_) (fun c_4 => ?_)
  · have hv0 : 0 < v := by rw [hv, x_nat (by omega)] at c_4; omega
    refine g_aload_n dX7_back_10 rfl ?_
    refine g_dup dX7_back_11 rfl ?_
    refine g_getI dX7_back_12 fl_X7_148 (x_vM hn (Nat.le_of_ble_eq_true rfl) (Nat.le_of_ble_eq_true rfl)) rfl rfl ?_
    refine g_iconst dX7_back_15 ?_
    refine g_isub dX7_back_16 ?_
    refine g_putI dX7_back_17 fl_X7_148 (x_vM hn (Nat.le_of_ble_eq_true rfl) (Nat.le_of_ble_eq_true rfl)) rfl rfl ?_
    refine g_aload_n dX7_back_20 rfl ?_
    refine g_aload_n dX7_back_21 rfl ?_
    refine g_getR (t2 := 46) (i2 := 0) dX7_back_22 fl_X7_73 (x_vM hn (Nat.le_of_ble_eq_true rfl) (Nat.le_of_ble_eq_true rfl)) rfl rfl rfl ?_
    refine g_bipush dX7_back_25 (by decide) ?_
    refine g_aload_n dX7_back_27 rfl ?_
    refine g_getI dX7_back_28 fl_X7_148 (x_vM hn (Nat.le_of_ble_eq_true rfl) (Nat.le_of_ble_eq_true rfl)) rfl rfl ?_
    refine g_imul dX7_back_31 ?_
    refine g_eqI (((52 * (v - 1)) : Nat) : Int) (by simp only [x_up_s, if_pos, hv]; omega) ?_
    refine f_Vv dX7_back_32 cs_X7_198 mb_X7_takes (c_X7_takes_46 l n _ (52 * (v - 1)) hn (by omega) (by omega)) rfl (x_vM hn (Nat.le_of_ble_eq_true rfl) (Nat.le_of_ble_eq_true rfl)) rfl rfl rfl (Nat.le_of_ble_eq_true rfl) (by decide) (Nat.le_of_ble_eq_true rfl) (Nat.le_refl _) (Nat.le_refl _) ?_
    refine g_aload_n dX7_back_35 rfl ?_
    refine g_iconst dX7_back_36 ?_
    refine g_putI dX7_back_37 fl_X7_145 (x_vM hn (Nat.le_of_ble_eq_true rfl) (Nat.le_of_ble_eq_true rfl)) rfl rfl ?_
    refine g_aload_n dX7_back_40 rfl ?_
    refine g_getI dX7_back_41 fl_X7_148 (x_vM hn (Nat.le_of_ble_eq_true rfl) (Nat.le_of_ble_eq_true rfl)) rfl rfl ?_
    exact f_iret dX7_back_44 (by rw [V_X7_back, if_neg c_4]) (by rw [S_X7_back, if_neg c_4])
  · refine g_bipush dX7_back_7 (by decide) ?_
    exact f_iret dX7_back_9 (by rw [V_X7_back, if_pos c_4]) (by rw [S_X7_back, if_pos c_4])

def V_X7_behind (σ : xMi) (n1 : Int) (w1 : Int) (K : Nat) : Int := (if x_wr (V_X7_in σ n1 0 60) = 0 then (-1) else (if x_wr (V_X7_in σ w1 0 2) = 0 then (-1) else (if x_wr w1 = 0 then (V_X7_eatSet (S_X7_goesOn (S_X7_start σ ) (n1.toNat) K) K) else (if x_wr w1 = x_wr 1 then (V_X7_toldSet (S_X7_goesOn (S_X7_start σ ) (n1.toNat) K) K) else (V_X7_softSet (S_X7_goesOn (S_X7_start σ ) (n1.toNat) K) K)))))
def S_X7_behind (σ : xMi) (n1 : Int) (w1 : Int) (K : Nat) : xMi := (if x_wr (V_X7_in σ n1 0 60) = 0 then σ else (if x_wr (V_X7_in σ w1 0 2) = 0 then σ else (if x_wr w1 = 0 then (S_X7_putBack (S_X7_goesOn (S_X7_start σ ) (n1.toNat) K) ) else (if x_wr w1 = x_wr 1 then (S_X7_putBack (S_X7_goesOn (S_X7_start σ ) (n1.toNat) K) ) else (S_X7_putBack (S_X7_goesOn (S_X7_start σ ) (n1.toNat) K) )))))
theorem c_X7_behind (l : Launch) (n : Nat) (σ : xMi) (n1 : Int) (w1 : Int) (K : Nat) (hn : 154 ≤ n) (hK : K ≤ 6) (h1w : x_wr n1 = n1) (hmy : σ 24 0 0 = (K : Int)) : x_F l yX7_behind RX7 cX7_behind 4 (some .int) 4 n σ [xR 24 0, xI n1, xI w1] (some (xI (V_X7_behind σ n1 w1 K))) (S_X7_behind σ n1 w1 K) := by
  refine f_of (by decide) rfl (Nat.le_of_ble_eq_true rfl) rfl ?_
  refine g_iload_n dX7_behind_0 rfl ?_
  refine g_iconst dX7_behind_1 ?_
  refine g_bipush dX7_behind_2 (by decide) ?_
  refine f_S dX7_behind_4 cs_X7_100 mb_X7_in (c_X7_in l n _ n1 0 60 hn) rfl (Nat.lt_of_lt_of_le (by decide) hn) rfl (Nat.le_of_ble_eq_true rfl) (by decide) (Nat.le_of_ble_eq_true rfl) (Nat.le_refl _) (Nat.le_refl _) ?_
  refine g_if_eq 19 dX7_behind_7 rfl (fun c_7 => ?_) (fun c_7 => ?_)
  · refine g_iconst dX7_behind_19 ?_
    exact f_iret dX7_behind_20 (by rw [V_X7_behind, if_pos c_7]) (by rw [S_X7_behind, if_pos c_7])
  · refine g_iload_n dX7_behind_10 rfl ?_
    refine g_iconst dX7_behind_11 ?_
    refine g_iconst dX7_behind_12 ?_
    refine f_S dX7_behind_13 cs_X7_100 mb_X7_in (c_X7_in l n _ w1 0 2 hn) rfl (Nat.lt_of_lt_of_le (by decide) hn) rfl (Nat.le_of_ble_eq_true rfl) (by decide) (Nat.le_of_ble_eq_true rfl) (Nat.le_refl _) (Nat.le_refl _) ?_
    refine g_if_ne 21 dX7_behind_16 rfl (fun c_16 => ?_) (fun c_16 => ?_)
    · have hN : n1 = ((n1.toNat : Nat) : Int) ∧ n1.toNat ≤ 60 := by have h9 := l_in h1w c_7; rw [show x_wr 0 = 0 from by decide, show x_wr 60 = 60 from by decide] at h9; omega
      refine g_lveq (lv2 := [(0, xR 24 0), (1, xI ((n1.toNat : Nat) : Int)), (2, xI w1)]) (by rw [← hN.1] <;> rfl) ?_
      refine g_aload_n dX7_behind_21 rfl ?_
      refine f_Vv dX7_behind_22 cs_X7_201 mb_X7_start (c_X7_start l n _  hn) rfl (x_vM hn (Nat.le_of_ble_eq_true rfl) (Nat.le_of_ble_eq_true rfl)) rfl rfl rfl (Nat.le_of_ble_eq_true rfl) (by decide) (Nat.le_of_ble_eq_true rfl) (Nat.le_refl _) (Nat.le_refl _) ?_
      refine g_aload_n dX7_behind_25 rfl ?_
      refine g_iload_n dX7_behind_26 rfl ?_
      refine f_V dX7_behind_27 cs_X7_194 mb_X7_goesOn (c_X7_goesOn l n _ (n1.toNat) K hn (by omega) hK (by first | exact hmy | (simp (disch := first | omega | assumption) only [x_up_o, x_up_k, x_cp_o, fr_S_X7_start]; exact hmy))) rfl (x_vM hn (Nat.le_of_ble_eq_true rfl) (Nat.le_of_ble_eq_true rfl)) rfl rfl rfl (Nat.le_of_ble_eq_true rfl) (by decide) (Nat.le_of_ble_eq_true rfl) (Nat.le_refl _) (Nat.le_refl _) ?_
      refine g_pop dX7_behind_30 rfl ?_
      refine g_iload_n dX7_behind_31 rfl ?_
      refine g_if_ne 42 dX7_behind_32 rfl (fun c_32 => ?_) (fun c_32 => ?_)
      · refine g_iload_n dX7_behind_42 rfl ?_
        refine g_iconst dX7_behind_43 ?_
        refine g_cmp_ne 54 dX7_behind_44 rfl (fun c_44 => ?_) (fun c_44 => ?_)
        · refine g_aload_n dX7_behind_54 rfl ?_
          refine f_V dX7_behind_55 cs_X7_210 mb_X7_softSet (c_X7_softSet l n _ K hn hK (by first | exact hmy | (simp (disch := first | omega | assumption) only [x_up_o, x_up_k, x_cp_o, fr_S_X7_goesOn, fr_S_X7_start]; exact hmy))) rfl (x_vM hn (Nat.le_of_ble_eq_true rfl) (Nat.le_of_ble_eq_true rfl)) rfl rfl rfl (Nat.le_of_ble_eq_true rfl) (by decide) (Nat.le_of_ble_eq_true rfl) (Nat.le_refl _) (Nat.le_refl _) ?_
          refine g_istore_n (lv' := [_, _, _, _]) dX7_behind_58 (Nat.le_of_ble_eq_true rfl) rfl ?_
          refine g_aload_n dX7_behind_59 rfl ?_
          refine f_Vv dX7_behind_60 cs_X7_213 mb_X7_putBack (c_X7_putBack l n _  hn) rfl (x_vM hn (Nat.le_of_ble_eq_true rfl) (Nat.le_of_ble_eq_true rfl)) rfl rfl rfl (Nat.le_of_ble_eq_true rfl) (by decide) (Nat.le_of_ble_eq_true rfl) (Nat.le_refl _) (Nat.le_refl _) ?_
          refine g_iload_n dX7_behind_63 rfl ?_
          exact f_iret dX7_behind_64 (by rw [V_X7_behind, if_neg c_7, if_neg c_16, if_neg c_32, if_neg c_44]) (by rw [S_X7_behind, if_neg c_7, if_neg c_16, if_neg c_32, if_neg c_44])
        · refine g_aload_n dX7_behind_47 rfl ?_
          refine f_V dX7_behind_48 cs_X7_207 mb_X7_toldSet (c_X7_toldSet l n _ K hn hK (by first | exact hmy | (simp (disch := first | omega | assumption) only [x_up_o, x_up_k, x_cp_o, fr_S_X7_goesOn, fr_S_X7_start]; exact hmy))) rfl (x_vM hn (Nat.le_of_ble_eq_true rfl) (Nat.le_of_ble_eq_true rfl)) rfl rfl rfl (Nat.le_of_ble_eq_true rfl) (by decide) (Nat.le_of_ble_eq_true rfl) (Nat.le_refl _) (Nat.le_refl _) ?_
          refine g_goto 58 dX7_behind_51 rfl ?_
          refine g_istore_n (lv' := [_, _, _, _]) dX7_behind_58 (Nat.le_of_ble_eq_true rfl) rfl ?_
          refine g_aload_n dX7_behind_59 rfl ?_
          refine f_Vv dX7_behind_60 cs_X7_213 mb_X7_putBack (c_X7_putBack l n _  hn) rfl (x_vM hn (Nat.le_of_ble_eq_true rfl) (Nat.le_of_ble_eq_true rfl)) rfl rfl rfl (Nat.le_of_ble_eq_true rfl) (by decide) (Nat.le_of_ble_eq_true rfl) (Nat.le_refl _) (Nat.le_refl _) ?_
          refine g_iload_n dX7_behind_63 rfl ?_
          exact f_iret dX7_behind_64 (by rw [V_X7_behind, if_neg c_7, if_neg c_16, if_neg c_32, if_pos c_44]) (by rw [S_X7_behind, if_neg c_7, if_neg c_16, if_neg c_32, if_pos c_44])
      · refine g_aload_n dX7_behind_35 rfl ?_
        refine f_V dX7_behind_36 cs_X7_204 mb_X7_eatSet (c_X7_eatSet l n _ K hn hK (by first | exact hmy | (simp (disch := first | omega | assumption) only [x_up_o, x_up_k, x_cp_o, fr_S_X7_goesOn, fr_S_X7_start]; exact hmy))) rfl (x_vM hn (Nat.le_of_ble_eq_true rfl) (Nat.le_of_ble_eq_true rfl)) rfl rfl rfl (Nat.le_of_ble_eq_true rfl) (by decide) (Nat.le_of_ble_eq_true rfl) (Nat.le_refl _) (Nat.le_refl _) ?_
        refine g_goto 58 dX7_behind_39 rfl ?_
        refine g_istore_n (lv' := [_, _, _, _]) dX7_behind_58 (Nat.le_of_ble_eq_true rfl) rfl ?_
        refine g_aload_n dX7_behind_59 rfl ?_
        refine f_Vv dX7_behind_60 cs_X7_213 mb_X7_putBack (c_X7_putBack l n _  hn) rfl (x_vM hn (Nat.le_of_ble_eq_true rfl) (Nat.le_of_ble_eq_true rfl)) rfl rfl rfl (Nat.le_of_ble_eq_true rfl) (by decide) (Nat.le_of_ble_eq_true rfl) (Nat.le_refl _) (Nat.le_refl _) ?_
        refine g_iload_n dX7_behind_63 rfl ?_
        exact f_iret dX7_behind_64 (by rw [V_X7_behind, if_neg c_7, if_neg c_16, if_pos c_32]) (by rw [S_X7_behind, if_neg c_7, if_neg c_16, if_pos c_32])
    · refine g_iconst dX7_behind_19 ?_
      exact f_iret dX7_behind_20 (by rw [V_X7_behind, if_neg c_7, if_pos c_16]) (by rw [S_X7_behind, if_neg c_7, if_pos c_16])


def V_X7_gentle (σ : xMi) (K : Nat) : Int := (V_X7_softWeight (S_X7_goesOn (S_X7_start σ ) 60 K) K)
def S_X7_gentle (σ : xMi) (K : Nat) : xMi := (S_X7_putBack (S_X7_goesOn (S_X7_start σ ) 60 K) )
theorem c_X7_gentle (l : Launch) (n : Nat) (σ : xMi)  (K : Nat) (hn : 154 ≤ n) (hK : K ≤ 6) (hmy : σ 24 0 0 = (K : Int)) : x_F l yX7_gentle RX7 cX7_gentle 2 (some .int) 4 n σ [xR 24 0] (some (xI (V_X7_gentle σ K))) (S_X7_gentle σ K) := by
  refine f_of (by decide) rfl (Nat.le_of_ble_eq_true rfl) rfl ?_
  refine g_aload_n dX7_gentle_0 rfl ?_
  refine f_Vv dX7_gentle_1 cs_X7_201 mb_X7_start (c_X7_start l n _  hn) rfl (x_vM hn (Nat.le_of_ble_eq_true rfl) (Nat.le_of_ble_eq_true rfl)) rfl rfl rfl (Nat.le_of_ble_eq_true rfl) (by decide) (Nat.le_of_ble_eq_true rfl) (Nat.le_refl _) (Nat.le_refl _) ?_
  refine g_aload_n dX7_gentle_4 rfl ?_
  refine g_bipush dX7_gentle_5 (by decide) ?_
  refine f_V dX7_gentle_7 cs_X7_194 mb_X7_goesOn (c_X7_goesOn l n _ 60 K hn (Nat.le_of_ble_eq_true rfl) hK (by first | exact hmy | (simp (disch := first | omega | assumption) only [x_up_o, x_up_k, x_cp_o, fr_S_X7_start]; exact hmy))) rfl (x_vM hn (Nat.le_of_ble_eq_true rfl) (Nat.le_of_ble_eq_true rfl)) rfl rfl rfl (Nat.le_of_ble_eq_true rfl) (by decide) (Nat.le_of_ble_eq_true rfl) (Nat.le_refl _) (Nat.le_refl _) ?_
  refine g_pop dX7_gentle_10 rfl ?_
  refine g_aload_n dX7_gentle_11 rfl ?_
  refine f_V dX7_gentle_12 cs_X7_216 mb_X7_softWeight (c_X7_softWeight l n _ K hn hK (by first | exact hmy | (simp (disch := first | omega | assumption) only [x_up_o, x_up_k, x_cp_o, fr_S_X7_goesOn, fr_S_X7_start]; exact hmy))) rfl (x_vM hn (Nat.le_of_ble_eq_true rfl) (Nat.le_of_ble_eq_true rfl)) rfl rfl rfl (Nat.le_of_ble_eq_true rfl) (by decide) (Nat.le_of_ble_eq_true rfl) (Nat.le_refl _) (Nat.le_refl _) ?_
  refine g_istore_n (lv' := [_, _]) dX7_gentle_15 (Nat.le_of_ble_eq_true rfl) rfl ?_
  refine g_aload_n dX7_gentle_16 rfl ?_
  refine f_Vv dX7_gentle_17 cs_X7_213 mb_X7_putBack (c_X7_putBack l n _  hn) rfl (x_vM hn (Nat.le_of_ble_eq_true rfl) (Nat.le_of_ble_eq_true rfl)) rfl rfl rfl (Nat.le_of_ble_eq_true rfl) (by decide) (Nat.le_of_ble_eq_true rfl) (Nat.le_refl _) (Nat.le_refl _) ?_
  refine g_iload_n dX7_gentle_20 rfl ?_
  exact f_iret dX7_gentle_21 rfl rfl

def V_X7_isSoftBy (σ : xMi) (p : Nat) (m : Nat) (K : Nat) : Int := (if x_wr ((S_X7_goesOn (S_X7_start σ ) m K) 32 0 p) = x_wr (-4) then (if x_wr 1 = 0 then 1 else (if x_wr ((S_X7_goesOn (S_X7_goesOut (S_X7_goesOn (S_X7_start σ ) m K) p) (60 - m) K) 33 0 p) = x_wr 1 then 1 else 0)) else (if x_wr 0 = 0 then 0 else (if x_wr ((S_X7_goesOn (S_X7_goesOut (S_X7_goesOn (S_X7_start σ ) m K) p) (60 - m) K) 33 0 p) = x_wr 1 then 1 else 0)))
theorem z_X7_isSoftBy (σ : xMi) (p : Nat) (m : Nat) (K : Nat) : V_X7_isSoftBy σ p m K = 0 ∨ V_X7_isSoftBy σ p m K = 1 := by
  unfold V_X7_isSoftBy
  (repeat' split) <;> first | exact Or.inl rfl | exact Or.inr rfl
def S_X7_isSoftBy (σ : xMi) (p : Nat) (m : Nat) (K : Nat) : xMi := (if x_wr ((S_X7_goesOn (S_X7_start σ ) m K) 32 0 p) = x_wr (-4) then (if x_wr 1 = 0 then (S_X7_putBack (S_X7_goesOn (S_X7_start σ ) m K) ) else (if x_wr ((S_X7_goesOn (S_X7_goesOut (S_X7_goesOn (S_X7_start σ ) m K) p) (60 - m) K) 33 0 p) = x_wr 1 then (S_X7_putBack (S_X7_goesOn (S_X7_goesOut (S_X7_goesOn (S_X7_start σ ) m K) p) (60 - m) K) ) else (S_X7_putBack (S_X7_goesOn (S_X7_goesOut (S_X7_goesOn (S_X7_start σ ) m K) p) (60 - m) K) ))) else (if x_wr 0 = 0 then (S_X7_putBack (S_X7_goesOn (S_X7_start σ ) m K) ) else (if x_wr ((S_X7_goesOn (S_X7_goesOut (S_X7_goesOn (S_X7_start σ ) m K) p) (60 - m) K) 33 0 p) = x_wr 1 then (S_X7_putBack (S_X7_goesOn (S_X7_goesOut (S_X7_goesOn (S_X7_start σ ) m K) p) (60 - m) K) ) else (S_X7_putBack (S_X7_goesOn (S_X7_goesOut (S_X7_goesOn (S_X7_start σ ) m K) p) (60 - m) K) ))))
theorem fr_S_X7_isSoftBy (σ : xMi) (p : Nat) (m : Nat) (K : Nat) {t i k : Nat} (h : ¬ (t = 43 ∨ (t = 24 ∧ 5 ≤ k ∧ k ≤ 8) ∨ (29 ≤ t ∧ t ≤ 36))) : S_X7_isSoftBy σ p m K t i k = σ t i k := by
  unfold S_X7_isSoftBy
  all_goals ((repeat' split) <;> first | rfl | simp (disch := first | omega | assumption) only [x_up_o, x_up_k, x_cp_o, fr_S_X7_goesOn, fr_S_X7_goesOut, fr_S_X7_putBack, fr_S_X7_start])
theorem c_X7_isSoftBy (l : Launch) (n : Nat) (σ : xMi) (p : Nat) (m : Nat) (K : Nat) (hn : 154 ≤ n) (hp : p < 6) (hm : m ≤ 1000000) (hK : K ≤ 6) (hm6 : m ≤ 60) (hmy : σ 24 0 0 = (K : Int)) : x_F l yX7_isSoftBy RX7 cX7_isSoftBy 4 (some .boolean) 4 n σ [xR 24 0, xI (p : Int), xI (m : Int)] (some (xI (V_X7_isSoftBy σ p m K))) (S_X7_isSoftBy σ p m K) := by
  refine f_of (by decide) rfl (Nat.le_of_ble_eq_true rfl) rfl ?_
  refine g_aload_n dX7_isSoftBy_0 rfl ?_
  refine f_Vv dX7_isSoftBy_1 cs_X7_201 mb_X7_start (c_X7_start l n _  hn) rfl (x_vM hn (Nat.le_of_ble_eq_true rfl) (Nat.le_of_ble_eq_true rfl)) rfl rfl rfl (Nat.le_of_ble_eq_true rfl) (by decide) (Nat.le_of_ble_eq_true rfl) (Nat.le_refl _) (Nat.le_refl _) ?_
  refine g_aload_n dX7_isSoftBy_4 rfl ?_
  refine g_iload_n dX7_isSoftBy_5 rfl ?_
  refine f_V dX7_isSoftBy_6 cs_X7_194 mb_X7_goesOn (c_X7_goesOn l n _ m K hn hm hK (by first | exact hmy | (simp (disch := first | omega | assumption) only [x_up_o, x_up_k, x_cp_o, fr_S_X7_start]; exact hmy))) rfl (x_vM hn (Nat.le_of_ble_eq_true rfl) (Nat.le_of_ble_eq_true rfl)) rfl rfl rfl (Nat.le_of_ble_eq_true rfl) (by decide) (Nat.le_of_ble_eq_true rfl) (Nat.le_refl _) (Nat.le_refl _) ?_
  refine g_pop dX7_isSoftBy_9 rfl ?_
  refine g_aload_n dX7_isSoftBy_10 rfl ?_
  refine g_getR (t2 := 32) (i2 := 0) dX7_isSoftBy_11 fl_X7_31 (x_vM hn (Nat.le_of_ble_eq_true rfl) (Nat.le_of_ble_eq_true rfl)) rfl rfl rfl ?_
  refine g_iload_n dX7_isSoftBy_14 rfl ?_
  refine g_iald p dX7_isSoftBy_15 rfl hp (x_vM hn (Nat.le_of_ble_eq_true rfl) (Nat.le_of_ble_eq_true rfl)) rfl ?_
  refine g_bipush dX7_isSoftBy_16 (by decide) ?_
  refine g_cmp_ne 25 dX7_isSoftBy_18 rfl (fun c_18 => ?_) (fun c_18 => ?_)
  · refine g_iconst dX7_isSoftBy_25 ?_
    refine g_istore_n (lv' := [_, _, _, _]) dX7_isSoftBy_26 (Nat.le_of_ble_eq_true rfl) rfl ?_
    refine g_iload_n dX7_isSoftBy_27 rfl ?_
    refine g_if_eq 61 dX7_isSoftBy_28 rfl (fun c_28 => ?_) (fun c_28 => ?_)
    · refine g_aload_n dX7_isSoftBy_61 rfl ?_
      refine f_Vv dX7_isSoftBy_62 cs_X7_213 mb_X7_putBack (c_X7_putBack l n _  hn) rfl (x_vM hn (Nat.le_of_ble_eq_true rfl) (Nat.le_of_ble_eq_true rfl)) rfl rfl rfl (Nat.le_of_ble_eq_true rfl) (by decide) (Nat.le_of_ble_eq_true rfl) (Nat.le_refl _) (Nat.le_refl _) ?_
      refine g_iload_n dX7_isSoftBy_65 rfl ?_
      exact f_zret dX7_isSoftBy_66 (by decide) (by rw [V_X7_isSoftBy, if_neg c_18, if_pos c_28]) (by rw [S_X7_isSoftBy, if_neg c_18, if_pos c_28])
    · refine g_aload_n dX7_isSoftBy_31 rfl ?_
      refine g_iload_n dX7_isSoftBy_32 rfl ?_
      refine f_Vv dX7_isSoftBy_33 cs_X7_176 mb_X7_goesOut (c_X7_goesOut l n _ p hn hp) rfl (x_vM hn (Nat.le_of_ble_eq_true rfl) (Nat.le_of_ble_eq_true rfl)) rfl rfl rfl (Nat.le_of_ble_eq_true rfl) (by decide) (Nat.le_of_ble_eq_true rfl) (Nat.le_refl _) (Nat.le_refl _) ?_
      refine g_aload_n dX7_isSoftBy_36 rfl ?_
      refine g_bipush dX7_isSoftBy_37 (by decide) ?_
      refine g_iload_n dX7_isSoftBy_39 rfl ?_
      refine g_isub dX7_isSoftBy_40 ?_
      refine g_eqI ((60 - m : Nat) : Int) (by omega) ?_
      refine f_V dX7_isSoftBy_41 cs_X7_194 mb_X7_goesOn (c_X7_goesOn l n _ (60 - m) K hn (by omega) hK (by first | exact hmy | (simp (disch := first | omega | assumption) only [x_up_o, x_up_k, x_cp_o, fr_S_X7_goesOn, fr_S_X7_goesOut, fr_S_X7_start]; exact hmy))) rfl (x_vM hn (Nat.le_of_ble_eq_true rfl) (Nat.le_of_ble_eq_true rfl)) rfl rfl rfl (Nat.le_of_ble_eq_true rfl) (by decide) (Nat.le_of_ble_eq_true rfl) (Nat.le_refl _) (Nat.le_refl _) ?_
      refine g_pop dX7_isSoftBy_44 rfl ?_
      refine g_aload_n dX7_isSoftBy_45 rfl ?_
      refine g_getR (t2 := 33) (i2 := 0) dX7_isSoftBy_46 fl_X7_34 (x_vM hn (Nat.le_of_ble_eq_true rfl) (Nat.le_of_ble_eq_true rfl)) rfl rfl rfl ?_
      refine g_iload_n dX7_isSoftBy_49 rfl ?_
      refine g_iald p dX7_isSoftBy_50 rfl hp (x_vM hn (Nat.le_of_ble_eq_true rfl) (Nat.le_of_ble_eq_true rfl)) rfl ?_
      refine g_iconst dX7_isSoftBy_51 ?_
      refine g_cmp_ne 59 dX7_isSoftBy_52 rfl (fun c_52 => ?_) (fun c_52 => ?_)
      · refine g_iconst dX7_isSoftBy_59 ?_
        refine g_istore_n (lv' := [_, _, _, _]) dX7_isSoftBy_60 (Nat.le_of_ble_eq_true rfl) rfl ?_
        refine g_aload_n dX7_isSoftBy_61 rfl ?_
        refine f_Vv dX7_isSoftBy_62 cs_X7_213 mb_X7_putBack (c_X7_putBack l n _  hn) rfl (x_vM hn (Nat.le_of_ble_eq_true rfl) (Nat.le_of_ble_eq_true rfl)) rfl rfl rfl (Nat.le_of_ble_eq_true rfl) (by decide) (Nat.le_of_ble_eq_true rfl) (Nat.le_refl _) (Nat.le_refl _) ?_
        refine g_iload_n dX7_isSoftBy_65 rfl ?_
        exact f_zret dX7_isSoftBy_66 (by decide) (by rw [V_X7_isSoftBy, if_neg c_18, if_neg c_28, if_neg c_52]) (by rw [S_X7_isSoftBy, if_neg c_18, if_neg c_28, if_neg c_52])
      · refine g_iconst dX7_isSoftBy_55 ?_
        refine g_goto 60 dX7_isSoftBy_56 rfl ?_
        refine g_istore_n (lv' := [_, _, _, _]) dX7_isSoftBy_60 (Nat.le_of_ble_eq_true rfl) rfl ?_
        refine g_aload_n dX7_isSoftBy_61 rfl ?_
        refine f_Vv dX7_isSoftBy_62 cs_X7_213 mb_X7_putBack (c_X7_putBack l n _  hn) rfl (x_vM hn (Nat.le_of_ble_eq_true rfl) (Nat.le_of_ble_eq_true rfl)) rfl rfl rfl (Nat.le_of_ble_eq_true rfl) (by decide) (Nat.le_of_ble_eq_true rfl) (Nat.le_refl _) (Nat.le_refl _) ?_
        refine g_iload_n dX7_isSoftBy_65 rfl ?_
        exact f_zret dX7_isSoftBy_66 (by decide) (by rw [V_X7_isSoftBy, if_neg c_18, if_neg c_28, if_pos c_52]) (by rw [S_X7_isSoftBy, if_neg c_18, if_neg c_28, if_pos c_52])
  · refine g_iconst dX7_isSoftBy_21 ?_
    refine g_goto 26 dX7_isSoftBy_22 rfl ?_
    refine g_istore_n (lv' := [_, _, _, _]) dX7_isSoftBy_26 (Nat.le_of_ble_eq_true rfl) rfl ?_
    refine g_iload_n dX7_isSoftBy_27 rfl ?_
    refine g_if_eq 61 dX7_isSoftBy_28 rfl (fun c_28 => ?_) (fun c_28 => ?_)
    · refine g_aload_n dX7_isSoftBy_61 rfl ?_
      refine f_Vv dX7_isSoftBy_62 cs_X7_213 mb_X7_putBack (c_X7_putBack l n _  hn) rfl (x_vM hn (Nat.le_of_ble_eq_true rfl) (Nat.le_of_ble_eq_true rfl)) rfl rfl rfl (Nat.le_of_ble_eq_true rfl) (by decide) (Nat.le_of_ble_eq_true rfl) (Nat.le_refl _) (Nat.le_refl _) ?_
      refine g_iload_n dX7_isSoftBy_65 rfl ?_
      exact f_zret dX7_isSoftBy_66 (by decide) (by rw [V_X7_isSoftBy, if_pos c_18, if_pos c_28]) (by rw [S_X7_isSoftBy, if_pos c_18, if_pos c_28])
    · refine g_aload_n dX7_isSoftBy_31 rfl ?_
      refine g_iload_n dX7_isSoftBy_32 rfl ?_
      refine f_Vv dX7_isSoftBy_33 cs_X7_176 mb_X7_goesOut (c_X7_goesOut l n _ p hn hp) rfl (x_vM hn (Nat.le_of_ble_eq_true rfl) (Nat.le_of_ble_eq_true rfl)) rfl rfl rfl (Nat.le_of_ble_eq_true rfl) (by decide) (Nat.le_of_ble_eq_true rfl) (Nat.le_refl _) (Nat.le_refl _) ?_
      refine g_aload_n dX7_isSoftBy_36 rfl ?_
      refine g_bipush dX7_isSoftBy_37 (by decide) ?_
      refine g_iload_n dX7_isSoftBy_39 rfl ?_
      refine g_isub dX7_isSoftBy_40 ?_
      refine g_eqI ((60 - m : Nat) : Int) (by omega) ?_
      refine f_V dX7_isSoftBy_41 cs_X7_194 mb_X7_goesOn (c_X7_goesOn l n _ (60 - m) K hn (by omega) hK (by first | exact hmy | (simp (disch := first | omega | assumption) only [x_up_o, x_up_k, x_cp_o, fr_S_X7_goesOn, fr_S_X7_goesOut, fr_S_X7_start]; exact hmy))) rfl (x_vM hn (Nat.le_of_ble_eq_true rfl) (Nat.le_of_ble_eq_true rfl)) rfl rfl rfl (Nat.le_of_ble_eq_true rfl) (by decide) (Nat.le_of_ble_eq_true rfl) (Nat.le_refl _) (Nat.le_refl _) ?_
      refine g_pop dX7_isSoftBy_44 rfl ?_
      refine g_aload_n dX7_isSoftBy_45 rfl ?_
      refine g_getR (t2 := 33) (i2 := 0) dX7_isSoftBy_46 fl_X7_34 (x_vM hn (Nat.le_of_ble_eq_true rfl) (Nat.le_of_ble_eq_true rfl)) rfl rfl rfl ?_
      refine g_iload_n dX7_isSoftBy_49 rfl ?_
      refine g_iald p dX7_isSoftBy_50 rfl hp (x_vM hn (Nat.le_of_ble_eq_true rfl) (Nat.le_of_ble_eq_true rfl)) rfl ?_
      refine g_iconst dX7_isSoftBy_51 ?_
      refine g_cmp_ne 59 dX7_isSoftBy_52 rfl (fun c_52 => ?_) (fun c_52 => ?_)
      · refine g_iconst dX7_isSoftBy_59 ?_
        refine g_istore_n (lv' := [_, _, _, _]) dX7_isSoftBy_60 (Nat.le_of_ble_eq_true rfl) rfl ?_
        refine g_aload_n dX7_isSoftBy_61 rfl ?_
        refine f_Vv dX7_isSoftBy_62 cs_X7_213 mb_X7_putBack (c_X7_putBack l n _  hn) rfl (x_vM hn (Nat.le_of_ble_eq_true rfl) (Nat.le_of_ble_eq_true rfl)) rfl rfl rfl (Nat.le_of_ble_eq_true rfl) (by decide) (Nat.le_of_ble_eq_true rfl) (Nat.le_refl _) (Nat.le_refl _) ?_
        refine g_iload_n dX7_isSoftBy_65 rfl ?_
        exact f_zret dX7_isSoftBy_66 (by decide) (by rw [V_X7_isSoftBy, if_pos c_18, if_neg c_28, if_neg c_52]) (by rw [S_X7_isSoftBy, if_pos c_18, if_neg c_28, if_neg c_52])
      · refine g_iconst dX7_isSoftBy_55 ?_
        refine g_goto 60 dX7_isSoftBy_56 rfl ?_
        refine g_istore_n (lv' := [_, _, _, _]) dX7_isSoftBy_60 (Nat.le_of_ble_eq_true rfl) rfl ?_
        refine g_aload_n dX7_isSoftBy_61 rfl ?_
        refine f_Vv dX7_isSoftBy_62 cs_X7_213 mb_X7_putBack (c_X7_putBack l n _  hn) rfl (x_vM hn (Nat.le_of_ble_eq_true rfl) (Nat.le_of_ble_eq_true rfl)) rfl rfl rfl (Nat.le_of_ble_eq_true rfl) (by decide) (Nat.le_of_ble_eq_true rfl) (Nat.le_refl _) (Nat.le_refl _) ?_
        refine g_iload_n dX7_isSoftBy_65 rfl ?_
        exact f_zret dX7_isSoftBy_66 (by decide) (by rw [V_X7_isSoftBy, if_pos c_18, if_neg c_28, if_pos c_52]) (by rw [S_X7_isSoftBy, if_pos c_18, if_neg c_28, if_pos c_52])

def V_X7_seen (σ : xMi) (n1 : Int) (p1 : Int) (i1 : Int) (z : Nat) : Int := (if x_wr (V_X7_in σ n1 0 40) = 0 then (-1) else (if x_wr (V_X7_isOne σ p1) = 0 then (-1) else (if x_wr (V_X7_in σ i1 0 1) = 0 then (-1) else (if x_wr (σ 24 0 17) = x_wr 6 then (-3) else ((x_up (x_up (x_up (x_up σ 37 0 z n1) 38 0 z p1) 39 0 z i1) 24 0 17 (((x_up (x_up (x_up σ 37 0 z n1) 38 0 z p1) 39 0 z i1) 24 0 17) + 1)) 24 0 17)))))
def S_X7_seen (σ : xMi) (n1 : Int) (p1 : Int) (i1 : Int) (z : Nat) : xMi := (if x_wr (V_X7_in σ n1 0 40) = 0 then σ else (if x_wr (V_X7_isOne σ p1) = 0 then σ else (if x_wr (V_X7_in σ i1 0 1) = 0 then σ else (if x_wr (σ 24 0 17) = x_wr 6 then σ else (x_up (x_up (x_up (x_up σ 37 0 z n1) 38 0 z p1) 39 0 z i1) 24 0 17 (((x_up (x_up (x_up σ 37 0 z n1) 38 0 z p1) 39 0 z i1) 24 0 17) + 1))))))
theorem c_X7_seen (l : Launch) (n : Nat) (σ : xMi) (n1 : Int) (p1 : Int) (i1 : Int) (z : Nat) (hn : 154 ≤ n) (hz6 : z ≤ 6) (hz : σ 24 0 17 = (z : Int)) : x_F l yX7_seen RX7 cX7_seen 4 (some .int) 2 n σ [xR 24 0, xI n1, xI p1, xI i1] (some (xI (V_X7_seen σ n1 p1 i1 z))) (S_X7_seen σ n1 p1 i1 z) := by
  refine f_of (by decide) rfl (Nat.le_of_ble_eq_true rfl) rfl ?_
  refine g_iload_n dX7_seen_0 rfl ?_
  refine g_iconst dX7_seen_1 ?_
  refine g_bipush dX7_seen_2 (by decide) ?_
  refine f_S dX7_seen_4 cs_X7_100 mb_X7_in (c_X7_in l n _ n1 0 40 hn) rfl (Nat.lt_of_lt_of_le (by decide) hn) rfl (Nat.le_of_ble_eq_true rfl) (by decide) (Nat.le_of_ble_eq_true rfl) (Nat.le_refl _) (Nat.le_refl _) ?_
  refine g_if_eq 27 dX7_seen_7 rfl (fun c_7 => ?_) (fun c_7 => ?_)
  · refine g_iconst dX7_seen_27 ?_
    exact f_iret dX7_seen_28 (by rw [V_X7_seen, if_pos c_7]) (by rw [S_X7_seen, if_pos c_7])
  · refine g_aload_n dX7_seen_10 rfl ?_
    refine g_iload_n dX7_seen_11 rfl ?_
    refine f_V dX7_seen_12 cs_X7_162 mb_X7_isOne (c_X7_isOne l n _ p1 hn) rfl (x_vM hn (Nat.le_of_ble_eq_true rfl) (Nat.le_of_ble_eq_true rfl)) rfl rfl rfl (Nat.le_of_ble_eq_true rfl) (by decide) (Nat.le_of_ble_eq_true rfl) (Nat.le_refl _) (Nat.le_refl _) ?_
    refine g_if_eq 27 dX7_seen_15 rfl (fun c_15 => ?_) (fun c_15 => ?_)
    · refine g_iconst dX7_seen_27 ?_
      exact f_iret dX7_seen_28 (by rw [V_X7_seen, if_neg c_7, if_pos c_15]) (by rw [S_X7_seen, if_neg c_7, if_pos c_15])
    · refine g_iload_n dX7_seen_18 rfl ?_
      refine g_iconst dX7_seen_19 ?_
      refine g_iconst dX7_seen_20 ?_
      refine f_S dX7_seen_21 cs_X7_100 mb_X7_in (c_X7_in l n _ i1 0 1 hn) rfl (Nat.lt_of_lt_of_le (by decide) hn) rfl (Nat.le_of_ble_eq_true rfl) (by decide) (Nat.le_of_ble_eq_true rfl) (Nat.le_refl _) (Nat.le_refl _) ?_
      refine g_if_ne 29 dX7_seen_24 rfl (fun c_24 => ?_) (fun c_24 => ?_)
      · refine g_aload_n dX7_seen_29 rfl ?_
        refine g_getI dX7_seen_30 fl_X7_142 (x_vM hn (Nat.le_of_ble_eq_true rfl) (Nat.le_of_ble_eq_true rfl)) rfl rfl ?_
        refine g_bipush dX7_seen_33 (by decide) ?_
        refine g_cmp_ne 41 dX7_seen_35 rfl (fun c_35 => ?_) (fun c_35 => ?_)
        · have hz5 : z < 6 := by rw [hz, x_nat (by omega), show x_wr 6 = 6 from by decide] at c_35; omega
          refine g_aload_n dX7_seen_41 rfl ?_
          refine g_getR (t2 := 37) (i2 := 0) dX7_seen_42 fl_X7_46 (x_vM hn (Nat.le_of_ble_eq_true rfl) (Nat.le_of_ble_eq_true rfl)) rfl rfl rfl ?_
          refine g_aload_n dX7_seen_45 rfl ?_
          refine g_getI dX7_seen_46 fl_X7_142 (x_vM hn (Nat.le_of_ble_eq_true rfl) (Nat.le_of_ble_eq_true rfl)) rfl rfl ?_
          refine g_eqI ((z : Nat) : Int) hz ?_
          refine g_iload_n dX7_seen_49 rfl ?_
          refine g_iast z dX7_seen_50 rfl hz5 (x_vM hn (Nat.le_of_ble_eq_true rfl) (Nat.le_of_ble_eq_true rfl)) rfl ?_
          refine g_aload_n dX7_seen_51 rfl ?_
          refine g_getR (t2 := 38) (i2 := 0) dX7_seen_52 fl_X7_49 (x_vM hn (Nat.le_of_ble_eq_true rfl) (Nat.le_of_ble_eq_true rfl)) rfl rfl rfl ?_
          refine g_aload_n dX7_seen_55 rfl ?_
          refine g_getI dX7_seen_56 fl_X7_142 (x_vM hn (Nat.le_of_ble_eq_true rfl) (Nat.le_of_ble_eq_true rfl)) rfl rfl ?_
          refine g_eqI ((z : Nat) : Int) (by simp (disch := first | omega | assumption) only [x_up_o, x_cp_o]; exact hz) ?_
          refine g_iload_n dX7_seen_59 rfl ?_
          refine g_iast z dX7_seen_60 rfl hz5 (x_vM hn (Nat.le_of_ble_eq_true rfl) (Nat.le_of_ble_eq_true rfl)) rfl ?_
          refine g_aload_n dX7_seen_61 rfl ?_
          refine g_getR (t2 := 39) (i2 := 0) dX7_seen_62 fl_X7_52 (x_vM hn (Nat.le_of_ble_eq_true rfl) (Nat.le_of_ble_eq_true rfl)) rfl rfl rfl ?_
          refine g_aload_n dX7_seen_65 rfl ?_
          refine g_getI dX7_seen_66 fl_X7_142 (x_vM hn (Nat.le_of_ble_eq_true rfl) (Nat.le_of_ble_eq_true rfl)) rfl rfl ?_
          refine g_eqI ((z : Nat) : Int) (by simp (disch := first | omega | assumption) only [x_up_o, x_cp_o]; exact hz) ?_
          refine g_iload_n dX7_seen_69 rfl ?_
          refine g_iast z dX7_seen_70 rfl hz5 (x_vM hn (Nat.le_of_ble_eq_true rfl) (Nat.le_of_ble_eq_true rfl)) rfl ?_
          refine g_aload_n dX7_seen_71 rfl ?_
          refine g_dup dX7_seen_72 rfl ?_
          refine g_getI dX7_seen_73 fl_X7_142 (x_vM hn (Nat.le_of_ble_eq_true rfl) (Nat.le_of_ble_eq_true rfl)) rfl rfl ?_
          refine g_iconst dX7_seen_76 ?_
          refine g_iadd dX7_seen_77 ?_
          refine g_putI dX7_seen_78 fl_X7_142 (x_vM hn (Nat.le_of_ble_eq_true rfl) (Nat.le_of_ble_eq_true rfl)) rfl rfl ?_
          refine g_aload_n dX7_seen_81 rfl ?_
          refine g_getI dX7_seen_82 fl_X7_142 (x_vM hn (Nat.le_of_ble_eq_true rfl) (Nat.le_of_ble_eq_true rfl)) rfl rfl ?_
          exact f_iret dX7_seen_85 (by rw [V_X7_seen, if_neg c_7, if_neg c_15, if_neg c_24, if_neg c_35]) (by rw [S_X7_seen, if_neg c_7, if_neg c_15, if_neg c_24, if_neg c_35])
        · refine g_bipush dX7_seen_38 (by decide) ?_
          exact f_iret dX7_seen_40 (by rw [V_X7_seen, if_neg c_7, if_neg c_15, if_neg c_24, if_pos c_35]) (by rw [S_X7_seen, if_neg c_7, if_neg c_15, if_neg c_24, if_pos c_35])
      · refine g_iconst dX7_seen_27 ?_
        exact f_iret dX7_seen_28 (by rw [V_X7_seen, if_neg c_7, if_neg c_15, if_pos c_24]) (by rw [S_X7_seen, if_neg c_7, if_neg c_15, if_pos c_24])

def V_X7_forget (σ : xMi)  : Int := (σ 24 0 17)
def S_X7_forget (σ : xMi)  : xMi := (x_up σ 24 0 17 0)
theorem c_X7_forget (l : Launch) (n : Nat) (σ : xMi)  (hn : 154 ≤ n)   : x_F l yX7_forget RX7 cX7_forget 2 (some .int) 0 n σ [xR 24 0] (some (xI (V_X7_forget σ ))) (S_X7_forget σ ) := by
  refine f_of (by decide) rfl (Nat.le_of_ble_eq_true rfl) rfl ?_
  refine g_aload_n dX7_forget_0 rfl ?_
  refine g_getI dX7_forget_1 fl_X7_142 (x_vM hn (Nat.le_of_ble_eq_true rfl) (Nat.le_of_ble_eq_true rfl)) rfl rfl ?_
  refine g_istore_n (lv' := [_, _]) dX7_forget_4 (Nat.le_of_ble_eq_true rfl) rfl ?_
  refine g_aload_n dX7_forget_5 rfl ?_
  refine g_iconst dX7_forget_6 ?_
  refine g_putI dX7_forget_7 fl_X7_142 (x_vM hn (Nat.le_of_ble_eq_true rfl) (Nat.le_of_ble_eq_true rfl)) rfl rfl ?_
  refine g_iload_n dX7_forget_10 rfl ?_
  exact f_iret dX7_forget_11 rfl rfl

def RV_X7_sumOf_4 (K : Nat) : Nat → Nat → xMi → Int → Int
  | 0, p, σ, a => a
  | k + 1, p, σ, a => (RV_X7_sumOf_4 K k (p + 1) σ (a + (σ 29 0 p)))
theorem lh_X7_sumOf_4 (l : Launch) (n : Nat)  (K : Nat) (hn : 154 ≤ n) (hK : K ≤ 6) : ∀ (k p : Nat) (σ : xMi) (a : Int), p + k = K → (σ 24 0 0 = (K : Int)) →  x_G l RX7 cX7_sumOf 4 (some .int) 0 n (some (xI (RV_X7_sumOf_4 K k p σ a))) σ 4 [(3, xI (p : Int)), (2, xI a), (0, xR 24 0), (1, xR 29 0)] [] σ := by
  intro k
  induction k with
  | zero =>
    intro p σ a hk hmy
    refine g_iload_n dX7_sumOf_4 rfl ?_
    refine g_aload_n dX7_sumOf_5 rfl ?_
    refine g_getI dX7_sumOf_6 fl_X7_84 (x_vM hn (Nat.le_of_ble_eq_true rfl) (Nat.le_of_ble_eq_true rfl)) rfl rfl ?_
    refine g_cmp_ge 24 dX7_sumOf_9 rfl (fun c_9 => ?_) (fun c_9 => absurd (by rw [hmy, x_nat (by omega), x_nat (by omega)]; omega) c_9)
    refine g_iload_n dX7_sumOf_24 rfl ?_
    exact f_iret dX7_sumOf_25 rfl rfl
  | succ k ih =>
    intro p σ a hk hmy
    have hp : p < 6 := by omega
    refine g_iload_n dX7_sumOf_4 rfl ?_
    refine g_aload_n dX7_sumOf_5 rfl ?_
    refine g_getI dX7_sumOf_6 fl_X7_84 (x_vM hn (Nat.le_of_ble_eq_true rfl) (Nat.le_of_ble_eq_true rfl)) rfl rfl ?_
    refine g_cmp_ge 24 dX7_sumOf_9 rfl (fun c_9 => absurd c_9 (by rw [hmy, x_nat (by omega), x_nat (by omega)]; omega)) (fun c_9 => ?_)
    refine g_iload_n dX7_sumOf_12 rfl ?_
    refine g_aload_n dX7_sumOf_13 rfl ?_
    refine g_iload_n dX7_sumOf_14 rfl ?_
    refine g_iald p dX7_sumOf_15 rfl hp (x_vM hn (Nat.le_of_ble_eq_true rfl) (Nat.le_of_ble_eq_true rfl)) rfl ?_
    refine g_iadd dX7_sumOf_16 ?_
    refine g_istore_n (lv' := [_, _, _, _]) dX7_sumOf_17 (Nat.le_of_ble_eq_true rfl) rfl ?_
    refine g_iinc (lv' := [(3, xI (((p + 1) : Nat) : Int)), _, _, _]) dX7_sumOf_18 (Nat.le_of_ble_eq_true rfl) rfl rfl ?_
    refine g_goto 4 dX7_sumOf_21 rfl ?_
    refine g_sub (lv2 := [(3, xI (((p + 1) : Nat) : Int)), _, _, _]) [0, 1, 2, 3] rfl ?_
    exact f_cv rfl rfl (ih (p + 1) _ _ (by omega) hmy)
def V_X7_sumOf (σ : xMi) (K : Nat) : Int := (RV_X7_sumOf_4 K K 0 σ 0)
theorem c_X7_sumOf (l : Launch) (n : Nat) (σ : xMi)  (K : Nat) (hn : 154 ≤ n) (hK : K ≤ 6) (hmy : σ 24 0 0 = (K : Int)) : x_F l yX7_sumOf RX7 cX7_sumOf 4 (some .int) 0 n σ [xR 24 0, xR 29 0] (some (xI (V_X7_sumOf σ K))) σ := by
  refine f_of (by decide) rfl (Nat.le_of_ble_eq_true rfl) rfl ?_
  refine g_iconst dX7_sumOf_0 ?_
  refine g_istore_n (lv' := [_, _, _]) dX7_sumOf_1 (Nat.le_of_ble_eq_true rfl) rfl ?_
  refine g_iconst dX7_sumOf_2 ?_
  refine g_istore_n (lv' := [_, _, _, _]) dX7_sumOf_3 (Nat.le_of_ble_eq_true rfl) rfl ?_
  refine g_sub (lv2 := [(3, xI ((0 : Nat) : Int)), _, _, _]) [0, 1, 2, 3] rfl ?_
  exact f_cv rfl rfl (lh_X7_sumOf_4 l n K hn hK K 0 _ _ (by omega) hmy)

def V_X7_count (σ : xMi) (w1 : Int) (K : Nat) : Int := (if x_wr (V_X7_in σ w1 0 11) = 0 then (-1) else (if x_wr w1 = 0 then (σ 24 0 0) else (if x_wr w1 = 1 then (σ 24 0 5) else (if x_wr w1 = 2 then (σ 24 0 6) else (if x_wr w1 = 3 then (V_X7_sumOf σ K) else (if x_wr w1 = 4 then (V_X7_bits σ (V_X7_eatSet σ K)) else (if x_wr w1 = 5 then (V_X7_bits σ (V_X7_toldSet σ K)) else (if x_wr w1 = 6 then (V_X7_bits σ (V_X7_softSet σ K)) else (if x_wr w1 = 7 then (σ 24 0 8) else (if x_wr w1 = 8 then (σ 24 0 17) else (if x_wr w1 = 9 then (σ 24 0 29) else (if x_wr w1 = 10 then (σ 24 0 35) else (σ 24 0 22)))))))))))))
theorem c_X7_count (l : Launch) (n : Nat) (σ : xMi) (w1 : Int) (K : Nat) (hn : 154 ≤ n) (hK : K ≤ 6) (hmy : σ 24 0 0 = (K : Int)) : x_F l yX7_count RX7 cX7_count 2 (some .int) 1 n σ [xR 24 0, xI w1] (some (xI (V_X7_count σ w1 K))) σ := by
  refine f_of (by decide) rfl (Nat.le_of_ble_eq_true rfl) rfl ?_
  refine g_iload_n dX7_count_0 rfl ?_
  refine g_iconst dX7_count_1 ?_
  refine g_bipush dX7_count_2 (by decide) ?_
  refine f_S dX7_count_4 cs_X7_100 mb_X7_in (c_X7_in l n _ w1 0 11 hn) rfl (Nat.lt_of_lt_of_le (by decide) hn) rfl (Nat.le_of_ble_eq_true rfl) (by decide) (Nat.le_of_ble_eq_true rfl) (Nat.le_refl _) (Nat.le_refl _) ?_
  refine g_if_ne 12 dX7_count_7 rfl (fun c_7 => ?_) (fun c_7 => ?_)
  · refine g_iload_n dX7_count_12 rfl ?_
    by_cases s_13_0 : x_wr w1 = 0
    · refine g_tin 72 dX7_count_13 (by omega) (by omega) (by rw [s_13_0]; rfl) rfl ?_
      refine g_aload_n dX7_count_72 rfl ?_
      refine g_getI dX7_count_73 fl_X7_84 (x_vM hn (Nat.le_of_ble_eq_true rfl) (Nat.le_of_ble_eq_true rfl)) rfl rfl ?_
      exact f_iret dX7_count_76 (by rw [V_X7_count, if_neg c_7, if_pos s_13_0]) rfl
    · by_cases s_13_1 : x_wr w1 = 1
      · refine g_tin 77 dX7_count_13 (by omega) (by omega) (by rw [s_13_1]; rfl) rfl ?_
        refine g_aload_n dX7_count_77 rfl ?_
        refine g_getI dX7_count_78 fl_X7_88 (x_vM hn (Nat.le_of_ble_eq_true rfl) (Nat.le_of_ble_eq_true rfl)) rfl rfl ?_
        exact f_iret dX7_count_81 (by rw [V_X7_count, if_neg c_7, if_neg s_13_0, if_pos s_13_1]) rfl
      · by_cases s_13_2 : x_wr w1 = 2
        · refine g_tin 82 dX7_count_13 (by omega) (by omega) (by rw [s_13_2]; rfl) rfl ?_
          refine g_aload_n dX7_count_82 rfl ?_
          refine g_getI dX7_count_83 fl_X7_91 (x_vM hn (Nat.le_of_ble_eq_true rfl) (Nat.le_of_ble_eq_true rfl)) rfl rfl ?_
          exact f_iret dX7_count_86 (by rw [V_X7_count, if_neg c_7, if_neg s_13_0, if_neg s_13_1, if_pos s_13_2]) rfl
        · by_cases s_13_3 : x_wr w1 = 3
          · refine g_tin 87 dX7_count_13 (by omega) (by omega) (by rw [s_13_3]; rfl) rfl ?_
            refine g_aload_n dX7_count_87 rfl ?_
            refine g_aload_n dX7_count_88 rfl ?_
            refine g_getR (t2 := 29) (i2 := 0) dX7_count_89 fl_X7_22 (x_vM hn (Nat.le_of_ble_eq_true rfl) (Nat.le_of_ble_eq_true rfl)) rfl rfl rfl ?_
            refine f_V dX7_count_92 cs_X7_261 mb_X7_sumOf (c_X7_sumOf l n _ K hn hK hmy) rfl (x_vM hn (Nat.le_of_ble_eq_true rfl) (Nat.le_of_ble_eq_true rfl)) rfl rfl rfl (Nat.le_of_ble_eq_true rfl) (by decide) (Nat.le_of_ble_eq_true rfl) (Nat.le_refl _) (Nat.le_refl _) ?_
            exact f_iret dX7_count_95 (by rw [V_X7_count, if_neg c_7, if_neg s_13_0, if_neg s_13_1, if_neg s_13_2, if_pos s_13_3]) rfl
          · by_cases s_13_4 : x_wr w1 = 4
            · refine g_tin 96 dX7_count_13 (by omega) (by omega) (by rw [s_13_4]; rfl) rfl ?_
              refine g_aload_n dX7_count_96 rfl ?_
              refine f_V dX7_count_97 cs_X7_204 mb_X7_eatSet (c_X7_eatSet l n _ K hn hK hmy) rfl (x_vM hn (Nat.le_of_ble_eq_true rfl) (Nat.le_of_ble_eq_true rfl)) rfl rfl rfl (Nat.le_of_ble_eq_true rfl) (by decide) (Nat.le_of_ble_eq_true rfl) (Nat.le_refl _) (Nat.le_refl _) ?_
              refine f_S dX7_count_100 cs_X7_258 mb_X7_bits (c_X7_bits l n _ (V_X7_eatSet σ K) hn) rfl (Nat.lt_of_lt_of_le (by decide) hn) rfl (Nat.le_of_ble_eq_true rfl) (by decide) (Nat.le_of_ble_eq_true rfl) (Nat.le_refl _) (Nat.le_refl _) ?_
              exact f_iret dX7_count_103 (by rw [V_X7_count, if_neg c_7, if_neg s_13_0, if_neg s_13_1, if_neg s_13_2, if_neg s_13_3, if_pos s_13_4]) rfl
            · by_cases s_13_5 : x_wr w1 = 5
              · refine g_tin 104 dX7_count_13 (by omega) (by omega) (by rw [s_13_5]; rfl) rfl ?_
                refine g_aload_n dX7_count_104 rfl ?_
                refine f_V dX7_count_105 cs_X7_207 mb_X7_toldSet (c_X7_toldSet l n _ K hn hK hmy) rfl (x_vM hn (Nat.le_of_ble_eq_true rfl) (Nat.le_of_ble_eq_true rfl)) rfl rfl rfl (Nat.le_of_ble_eq_true rfl) (by decide) (Nat.le_of_ble_eq_true rfl) (Nat.le_refl _) (Nat.le_refl _) ?_
                refine f_S dX7_count_108 cs_X7_258 mb_X7_bits (c_X7_bits l n _ (V_X7_toldSet σ K) hn) rfl (Nat.lt_of_lt_of_le (by decide) hn) rfl (Nat.le_of_ble_eq_true rfl) (by decide) (Nat.le_of_ble_eq_true rfl) (Nat.le_refl _) (Nat.le_refl _) ?_
                exact f_iret dX7_count_111 (by rw [V_X7_count, if_neg c_7, if_neg s_13_0, if_neg s_13_1, if_neg s_13_2, if_neg s_13_3, if_neg s_13_4, if_pos s_13_5]) rfl
              · by_cases s_13_6 : x_wr w1 = 6
                · refine g_tin 112 dX7_count_13 (by omega) (by omega) (by rw [s_13_6]; rfl) rfl ?_
                  refine g_aload_n dX7_count_112 rfl ?_
                  refine f_V dX7_count_113 cs_X7_210 mb_X7_softSet (c_X7_softSet l n _ K hn hK hmy) rfl (x_vM hn (Nat.le_of_ble_eq_true rfl) (Nat.le_of_ble_eq_true rfl)) rfl rfl rfl (Nat.le_of_ble_eq_true rfl) (by decide) (Nat.le_of_ble_eq_true rfl) (Nat.le_refl _) (Nat.le_refl _) ?_
                  refine f_S dX7_count_116 cs_X7_258 mb_X7_bits (c_X7_bits l n _ (V_X7_softSet σ K) hn) rfl (Nat.lt_of_lt_of_le (by decide) hn) rfl (Nat.le_of_ble_eq_true rfl) (by decide) (Nat.le_of_ble_eq_true rfl) (Nat.le_refl _) (Nat.le_refl _) ?_
                  exact f_iret dX7_count_119 (by rw [V_X7_count, if_neg c_7, if_neg s_13_0, if_neg s_13_1, if_neg s_13_2, if_neg s_13_3, if_neg s_13_4, if_neg s_13_5, if_pos s_13_6]) rfl
                · by_cases s_13_7 : x_wr w1 = 7
                  · refine g_tin 120 dX7_count_13 (by omega) (by omega) (by rw [s_13_7]; rfl) rfl ?_
                    refine g_aload_n dX7_count_120 rfl ?_
                    refine g_getI dX7_count_121 fl_X7_97 (x_vM hn (Nat.le_of_ble_eq_true rfl) (Nat.le_of_ble_eq_true rfl)) rfl rfl ?_
                    exact f_iret dX7_count_124 (by rw [V_X7_count, if_neg c_7, if_neg s_13_0, if_neg s_13_1, if_neg s_13_2, if_neg s_13_3, if_neg s_13_4, if_neg s_13_5, if_neg s_13_6, if_pos s_13_7]) rfl
                  · by_cases s_13_8 : x_wr w1 = 8
                    · refine g_tin 125 dX7_count_13 (by omega) (by omega) (by rw [s_13_8]; rfl) rfl ?_
                      refine g_aload_n dX7_count_125 rfl ?_
                      refine g_getI dX7_count_126 fl_X7_142 (x_vM hn (Nat.le_of_ble_eq_true rfl) (Nat.le_of_ble_eq_true rfl)) rfl rfl ?_
                      exact f_iret dX7_count_129 (by rw [V_X7_count, if_neg c_7, if_neg s_13_0, if_neg s_13_1, if_neg s_13_2, if_neg s_13_3, if_neg s_13_4, if_neg s_13_5, if_neg s_13_6, if_neg s_13_7, if_pos s_13_8]) rfl
                    · by_cases s_13_9 : x_wr w1 = 9
                      · refine g_tin 130 dX7_count_13 (by omega) (by omega) (by rw [s_13_9]; rfl) rfl ?_
                        refine g_aload_n dX7_count_130 rfl ?_
                        refine g_getI dX7_count_131 fl_X7_145 (x_vM hn (Nat.le_of_ble_eq_true rfl) (Nat.le_of_ble_eq_true rfl)) rfl rfl ?_
                        exact f_iret dX7_count_134 (by rw [V_X7_count, if_neg c_7, if_neg s_13_0, if_neg s_13_1, if_neg s_13_2, if_neg s_13_3, if_neg s_13_4, if_neg s_13_5, if_neg s_13_6, if_neg s_13_7, if_neg s_13_8, if_pos s_13_9]) rfl
                      · by_cases s_13_10 : x_wr w1 = 10
                        · refine g_tin 135 dX7_count_13 (by omega) (by omega) (by rw [s_13_10]; rfl) rfl ?_
                          refine g_aload_n dX7_count_135 rfl ?_
                          refine g_getI dX7_count_136 fl_X7_148 (x_vM hn (Nat.le_of_ble_eq_true rfl) (Nat.le_of_ble_eq_true rfl)) rfl rfl ?_
                          exact f_iret dX7_count_139 (by rw [V_X7_count, if_neg c_7, if_neg s_13_0, if_neg s_13_1, if_neg s_13_2, if_neg s_13_3, if_neg s_13_4, if_neg s_13_5, if_neg s_13_6, if_neg s_13_7, if_neg s_13_8, if_neg s_13_9, if_pos s_13_10]) rfl
                        · refine g_tout 140 dX7_count_13 (by omega) rfl ?_
                          refine g_aload_n dX7_count_140 rfl ?_
                          refine g_getI dX7_count_141 fl_X7_104 (x_vM hn (Nat.le_of_ble_eq_true rfl) (Nat.le_of_ble_eq_true rfl)) rfl rfl ?_
                          exact f_iret dX7_count_144 (by rw [V_X7_count, if_neg c_7, if_neg s_13_0, if_neg s_13_1, if_neg s_13_2, if_neg s_13_3, if_neg s_13_4, if_neg s_13_5, if_neg s_13_6, if_neg s_13_7, if_neg s_13_8, if_neg s_13_9, if_neg s_13_10]) rfl
  · refine g_iconst dX7_count_10 ?_
    exact f_iret dX7_count_11 (by rw [V_X7_count, if_pos c_7]) rfl
