theorem x_nchar {v : Int} (h0 : 0 ≤ v) (h1 : v < 65536) : narrow .char (.int (Int32.ofInt v)) = .int (Int32.ofInt v) := by
  obtain ⟨q, rfl⟩ : ∃ q : Nat, v = (q : Int) := ⟨v.toNat, by omega⟩
  rw [x_ofk]; exact (pk_charN (by omega)).1
theorem x_chr_nar (a : Int) : vp_nar .char (Int32.ofInt (x_chr a)) = Int32.ofInt (x_chr a) := by
  unfold x_chr; rw [Int32.ofInt_toInt]; exact pk_vc _
theorem x_chr_of {a : Int} (h0 : 0 ≤ a) (h1 : a < 65536) : x_chr a = a := by
  obtain ⟨q, rfl⟩ : ∃ q : Nat, a = (q : Int) := ⟨a.toNat, by omega⟩
  unfold x_chr; rw [pk_char, x_ofk, pk_tn (by omega), Nat.mod_eq_of_lt (by omega), nI_toInt (by omega)]
theorem x_chr_in (a : Int) : 0 ≤ x_chr a ∧ x_chr a < 65536 := by
  unfold x_chr; rw [pk_char]
  have h : (Int32.ofInt a).toBitVec.toNat % 65536 < 65536 := Nat.mod_lt _ (by decide)
  rw [nI_toInt (by omega)]; omega
def S_X3_clear (σ : xMi) (r : Nat) : xMi := (x_up (x_up σ 5 r 4 0) 5 r 5 3)
theorem fr_S_X3_clear (σ : xMi) (r : Nat) {t i k : Nat} (h : ¬ (5 ≤ t ∧ t ≤ 9 ∧ i = r)) : S_X3_clear σ r t i k = σ t i k := by
  unfold S_X3_clear
  all_goals ((repeat' split) <;> first | rfl | simp (disch := first | omega | assumption) only [x_up_o, x_up_k, x_cp_o])
theorem c_X3_clear (l : Launch) (n : Nat) (σ : xMi) (r : Nat) (hn : 131 ≤ n) (hr : r < 3)  : x_F l yX3_clear RX3 cX3_clear 1 none 0 n σ [xR 5 r] none (S_X3_clear σ r) := by
  refine f_of (by decide) rfl (Nat.le_of_ble_eq_true rfl) rfl ?_
  refine g_aload_n dX3_clear_0 rfl ?_
  refine g_iconst dX3_clear_1 ?_
  refine g_putI dX3_clear_2 fl_X3_24 (x_vC hn (Nat.le_of_ble_eq_true rfl) hr) rfl rfl ?_
  refine g_aload_n dX3_clear_5 rfl ?_
  refine g_iconst dX3_clear_6 ?_
  refine g_putI dX3_clear_7 fl_X3_28 (x_vC hn (Nat.le_of_ble_eq_true rfl) hr) rfl rfl ?_
  exact f_vret dX3_clear_10 rfl rfl

def V_X3_addPerson (σ : xMi) (r : Nat) (k1 : Int) (x1 : Int) (n1 : Int) (b1 : Int) (z : Nat) : Int := (if x_wr 6 ≤ x_wr (σ 5 r 4) then 0 else (if x_wr 4 ≤ x_wr k1 then 0 else (if x_wr 40 < x_wr x1 then 0 else (if x_wr 40 < x_wr n1 then 0 else (if x_wr b1 < x_wr 1 then 0 else (if x_wr b1 ≤ x_wr 9 then 1 else 0))))))
theorem z_X3_addPerson (σ : xMi) (r : Nat) (k1 : Int) (x1 : Int) (n1 : Int) (b1 : Int) (z : Nat) : V_X3_addPerson σ r k1 x1 n1 b1 z = 0 ∨ V_X3_addPerson σ r k1 x1 n1 b1 z = 1 := by
  unfold V_X3_addPerson
  (repeat' split) <;> first | exact Or.inl rfl | exact Or.inr rfl
def S_X3_addPerson (σ : xMi) (r : Nat) (k1 : Int) (x1 : Int) (n1 : Int) (b1 : Int) (z : Nat) : xMi := (if x_wr 6 ≤ x_wr (σ 5 r 4) then σ else (if x_wr 4 ≤ x_wr k1 then σ else (if x_wr 40 < x_wr x1 then σ else (if x_wr 40 < x_wr n1 then σ else (if x_wr b1 < x_wr 1 then σ else (if x_wr b1 ≤ x_wr 9 then (x_up (x_up (x_up (x_up (x_up σ 6 r z k1) 7 r z x1) 8 r z n1) 9 r z b1) 5 r 4 (((x_up (x_up (x_up (x_up σ 6 r z k1) 7 r z x1) 8 r z n1) 9 r z b1) 5 r 4) + 1)) else σ))))))
theorem fr_S_X3_addPerson (σ : xMi) (r : Nat) (k1 : Int) (x1 : Int) (n1 : Int) (b1 : Int) (z : Nat) {t i k : Nat} (h : ¬ (5 ≤ t ∧ t ≤ 9 ∧ i = r)) : S_X3_addPerson σ r k1 x1 n1 b1 z t i k = σ t i k := by
  unfold S_X3_addPerson
  all_goals ((repeat' split) <;> first | rfl | simp (disch := first | omega | assumption) only [x_up_o, x_up_k, x_cp_o])
theorem c_X3_addPerson (l : Launch) (n : Nat) (σ : xMi) (r : Nat) (k1 : Int) (x1 : Int) (n1 : Int) (b1 : Int) (z : Nat) (hn : 131 ≤ n) (hr : r < 3) (hz6 : z ≤ 6) (hz : σ 5 r 4 = (z : Int)) : x_F l yX3_addPerson RX3 cX3_addPerson 5 (some .boolean) 0 n σ [xR 5 r, xI k1, xI x1, xI n1, xI b1] (some (xI (V_X3_addPerson σ r k1 x1 n1 b1 z))) (S_X3_addPerson σ r k1 x1 n1 b1 z) := by
  refine f_of (by decide) rfl (Nat.le_of_ble_eq_true rfl) rfl ?_
  refine g_aload_n dX3_addPerson_0 rfl ?_
  refine g_getI dX3_addPerson_1 fl_X3_24 (x_vC hn (Nat.le_of_ble_eq_true rfl) hr) rfl rfl ?_
  refine g_bipush dX3_addPerson_4 (by decide) ?_
  refine g_cmp_ge 39 dX3_addPerson_6 rfl (fun c_6 => ?_) (fun c_6 => ?_)
  · refine g_iconst dX3_addPerson_39 ?_
    exact f_zret dX3_addPerson_40 (by decide) (by rw [V_X3_addPerson, if_pos c_6]) (by rw [S_X3_addPerson, if_pos c_6])
  · refine g_iload_n dX3_addPerson_9 rfl ?_
    refine g_iconst dX3_addPerson_10 ?_
    refine g_cmp_ge 39 dX3_addPerson_11 rfl (fun c_11 => ?_) (fun c_11 => ?_)
    · refine g_iconst dX3_addPerson_39 ?_
      exact f_zret dX3_addPerson_40 (by decide) (by rw [V_X3_addPerson, if_neg c_6, if_pos c_11]) (by rw [S_X3_addPerson, if_neg c_6, if_pos c_11])
    · refine g_iload_n dX3_addPerson_14 rfl ?_
      refine g_bipush dX3_addPerson_15 (by decide) ?_
      refine g_cmp_gt 39 dX3_addPerson_17 rfl (fun c_17 => ?_) (fun c_17 => ?_)
      · refine g_iconst dX3_addPerson_39 ?_
        exact f_zret dX3_addPerson_40 (by decide) (by rw [V_X3_addPerson, if_neg c_6, if_neg c_11, if_pos c_17]) (by rw [S_X3_addPerson, if_neg c_6, if_neg c_11, if_pos c_17])
      · refine g_iload_n dX3_addPerson_20 rfl ?_
        refine g_bipush dX3_addPerson_21 (by decide) ?_
        refine g_cmp_gt 39 dX3_addPerson_23 rfl (fun c_23 => ?_) (fun c_23 => ?_)
        · refine g_iconst dX3_addPerson_39 ?_
          exact f_zret dX3_addPerson_40 (by decide) (by rw [V_X3_addPerson, if_neg c_6, if_neg c_11, if_neg c_17, if_pos c_23]) (by rw [S_X3_addPerson, if_neg c_6, if_neg c_11, if_neg c_17, if_pos c_23])
        · refine g_iload dX3_addPerson_26 rfl ?_
          refine g_iconst dX3_addPerson_28 ?_
          refine g_cmp_lt 39 dX3_addPerson_29 rfl (fun c_29 => ?_) (fun c_29 => ?_)
          · refine g_iconst dX3_addPerson_39 ?_
            exact f_zret dX3_addPerson_40 (by decide) (by rw [V_X3_addPerson, if_neg c_6, if_neg c_11, if_neg c_17, if_neg c_23, if_pos c_29]) (by rw [S_X3_addPerson, if_neg c_6, if_neg c_11, if_neg c_17, if_neg c_23, if_pos c_29])
          · refine g_iload dX3_addPerson_32 rfl ?_
            refine g_bipush dX3_addPerson_34 (by decide) ?_
            refine g_cmp_le 41 dX3_addPerson_36 rfl (fun c_36 => ?_) (fun c_36 => ?_)
            · have hz5 : z < 6 := by rw [hz, x_nat (by omega), show x_wr 6 = 6 from by decide] at c_6; omega
              refine g_aload_n dX3_addPerson_41 rfl ?_
              refine g_getR (t2 := 6) (i2 := r) dX3_addPerson_42 fl_X3_9 (x_vC hn (Nat.le_of_ble_eq_true rfl) hr) rfl rfl rfl ?_
              refine g_aload_n dX3_addPerson_45 rfl ?_
              refine g_getI dX3_addPerson_46 fl_X3_24 (x_vC hn (Nat.le_of_ble_eq_true rfl) hr) rfl rfl ?_
              refine g_eqI ((z : Nat) : Int) hz ?_
              refine g_iload_n dX3_addPerson_49 rfl ?_
              refine g_iast z dX3_addPerson_50 rfl hz5 (x_vC hn (Nat.le_of_ble_eq_true rfl) hr) rfl ?_
              refine g_aload_n dX3_addPerson_51 rfl ?_
              refine g_getR (t2 := 7) (i2 := r) dX3_addPerson_52 fl_X3_15 (x_vC hn (Nat.le_of_ble_eq_true rfl) hr) rfl rfl rfl ?_
              refine g_aload_n dX3_addPerson_55 rfl ?_
              refine g_getI dX3_addPerson_56 fl_X3_24 (x_vC hn (Nat.le_of_ble_eq_true rfl) hr) rfl rfl ?_
              refine g_eqI ((z : Nat) : Int) (by simp (disch := first | omega | assumption) only [x_up_o, x_cp_o]; exact hz) ?_
              refine g_iload_n dX3_addPerson_59 rfl ?_
              refine g_iast z dX3_addPerson_60 rfl hz5 (x_vC hn (Nat.le_of_ble_eq_true rfl) hr) rfl ?_
              refine g_aload_n dX3_addPerson_61 rfl ?_
              refine g_getR (t2 := 8) (i2 := r) dX3_addPerson_62 fl_X3_18 (x_vC hn (Nat.le_of_ble_eq_true rfl) hr) rfl rfl rfl ?_
              refine g_aload_n dX3_addPerson_65 rfl ?_
              refine g_getI dX3_addPerson_66 fl_X3_24 (x_vC hn (Nat.le_of_ble_eq_true rfl) hr) rfl rfl ?_
              refine g_eqI ((z : Nat) : Int) (by simp (disch := first | omega | assumption) only [x_up_o, x_cp_o]; exact hz) ?_
              refine g_iload_n dX3_addPerson_69 rfl ?_
              refine g_iast z dX3_addPerson_70 rfl hz5 (x_vC hn (Nat.le_of_ble_eq_true rfl) hr) rfl ?_
              refine g_aload_n dX3_addPerson_71 rfl ?_
              refine g_getR (t2 := 9) (i2 := r) dX3_addPerson_72 fl_X3_21 (x_vC hn (Nat.le_of_ble_eq_true rfl) hr) rfl rfl rfl ?_
              refine g_aload_n dX3_addPerson_75 rfl ?_
              refine g_getI dX3_addPerson_76 fl_X3_24 (x_vC hn (Nat.le_of_ble_eq_true rfl) hr) rfl rfl ?_
              refine g_eqI ((z : Nat) : Int) (by simp (disch := first | omega | assumption) only [x_up_o, x_cp_o]; exact hz) ?_
              refine g_iload dX3_addPerson_79 rfl ?_
              refine g_iast z dX3_addPerson_81 rfl hz5 (x_vC hn (Nat.le_of_ble_eq_true rfl) hr) rfl ?_
              refine g_aload_n dX3_addPerson_82 rfl ?_
              refine g_dup dX3_addPerson_83 rfl ?_
              refine g_getI dX3_addPerson_84 fl_X3_24 (x_vC hn (Nat.le_of_ble_eq_true rfl) hr) rfl rfl ?_
              refine g_iconst dX3_addPerson_87 ?_
              refine g_iadd dX3_addPerson_88 ?_
              refine g_putI dX3_addPerson_89 fl_X3_24 (x_vC hn (Nat.le_of_ble_eq_true rfl) hr) rfl rfl ?_
              refine g_iconst dX3_addPerson_92 ?_
              exact f_zret dX3_addPerson_93 (by decide) (by rw [V_X3_addPerson, if_neg c_6, if_neg c_11, if_neg c_17, if_neg c_23, if_neg c_29, if_pos c_36]) (by rw [S_X3_addPerson, if_neg c_6, if_neg c_11, if_neg c_17, if_neg c_23, if_neg c_29, if_pos c_36])
            · refine g_iconst dX3_addPerson_39 ?_
              exact f_zret dX3_addPerson_40 (by decide) (by rw [V_X3_addPerson, if_neg c_6, if_neg c_11, if_neg c_17, if_neg c_23, if_neg c_29, if_neg c_36]) (by rw [S_X3_addPerson, if_neg c_6, if_neg c_11, if_neg c_17, if_neg c_23, if_neg c_29, if_neg c_36])

def V_X3_setStock (σ : xMi) (r : Nat) (h1 : Int) : Int := (if x_wr h1 ≤ x_wr 20 then 1 else 0)
theorem z_X3_setStock (σ : xMi) (r : Nat) (h1 : Int) : V_X3_setStock σ r h1 = 0 ∨ V_X3_setStock σ r h1 = 1 := by
  unfold V_X3_setStock
  (repeat' split) <;> first | exact Or.inl rfl | exact Or.inr rfl
def S_X3_setStock (σ : xMi) (r : Nat) (h1 : Int) : xMi := (if x_wr h1 ≤ x_wr 20 then (x_up σ 5 r 5 h1) else σ)
theorem fr_S_X3_setStock (σ : xMi) (r : Nat) (h1 : Int) {t i k : Nat} (h : ¬ (5 ≤ t ∧ t ≤ 9 ∧ i = r)) : S_X3_setStock σ r h1 t i k = σ t i k := by
  unfold S_X3_setStock
  all_goals ((repeat' split) <;> first | rfl | simp (disch := first | omega | assumption) only [x_up_o, x_up_k, x_cp_o])
theorem c_X3_setStock (l : Launch) (n : Nat) (σ : xMi) (r : Nat) (h1 : Int) (hn : 131 ≤ n) (hr : r < 3)  : x_F l yX3_setStock RX3 cX3_setStock 2 (some .boolean) 0 n σ [xR 5 r, xI h1] (some (xI (V_X3_setStock σ r h1))) (S_X3_setStock σ r h1) := by
  refine f_of (by decide) rfl (Nat.le_of_ble_eq_true rfl) rfl ?_
  refine g_iload_n dX3_setStock_0 rfl ?_
  refine g_bipush dX3_setStock_1 (by decide) ?_
  refine g_cmp_le 8 dX3_setStock_3 rfl (fun c_3 => ?_) (fun c_3 => ?_)
  · refine g_aload_n dX3_setStock_8 rfl ?_
    refine g_iload_n dX3_setStock_9 rfl ?_
    refine g_putI dX3_setStock_10 fl_X3_28 (x_vC hn (Nat.le_of_ble_eq_true rfl) hr) rfl rfl ?_
    refine g_iconst dX3_setStock_13 ?_
    exact f_zret dX3_setStock_14 (by decide) (by rw [V_X3_setStock, if_pos c_3]) (by rw [S_X3_setStock, if_pos c_3])
  · refine g_iconst dX3_setStock_6 ?_
    exact f_zret dX3_setStock_7 (by decide) (by rw [V_X3_setStock, if_neg c_3]) (by rw [S_X3_setStock, if_neg c_3])

def T_X3_copyFrom_1 (σ : xMi) (r : Nat) (q : Nat) : xMi := (x_up (x_up (x_cp (x_cp (x_cp (x_cp σ 6 r 6 q 6) 7 r 7 q 6) 8 r 8 q 6) 9 r 9 q 6) 5 r 4 ((x_cp (x_cp (x_cp (x_cp σ 6 r 6 q 6) 7 r 7 q 6) 8 r 8 q 6) 9 r 9 q 6) 5 q 4)) 5 r 5 ((x_up (x_cp (x_cp (x_cp (x_cp σ 6 r 6 q 6) 7 r 7 q 6) 8 r 8 q 6) 9 r 9 q 6) 5 r 4 ((x_cp (x_cp (x_cp (x_cp σ 6 r 6 q 6) 7 r 7 q 6) 8 r 8 q 6) 9 r 9 q 6) 5 q 4)) 5 q 5))
def S_X3_copyFrom (σ : xMi) (r : Nat) (q : Nat) : xMi := (T_X3_copyFrom_1 σ r q)
theorem fr_S_X3_copyFrom (σ : xMi) (r : Nat) (q : Nat) {t i k : Nat} (h : ¬ (5 ≤ t ∧ t ≤ 9 ∧ i = r)) : S_X3_copyFrom σ r q t i k = σ t i k := by
  unfold S_X3_copyFrom
  all_goals ((repeat' split) <;> first | rfl | simp (disch := first | omega | assumption) only [x_up_o, x_up_k, x_cp_o, T_X3_copyFrom_1])
theorem c_X3_copyFrom (l : Launch) (n : Nat) (σ : xMi) (r : Nat) (q : Nat) (hn : 131 ≤ n) (hr : r < 3) (hq : q < 3)  : x_F l yX3_copyFrom RX3 cX3_copyFrom 2 none 1 n σ [xR 5 r, xR 5 q] none (S_X3_copyFrom σ r q) := by
  refine f_of (by decide) rfl (Nat.le_of_ble_eq_true rfl) rfl ?_
  refine g_aload_n dX3_copyFrom_0 rfl ?_
  refine g_getR (t2 := 6) (i2 := q) dX3_copyFrom_1 fl_X3_9 (x_vC hn (Nat.le_of_ble_eq_true rfl) hq) rfl rfl rfl ?_
  refine g_iconst dX3_copyFrom_4 ?_
  refine g_aload_n dX3_copyFrom_5 rfl ?_
  refine g_getR (t2 := 6) (i2 := r) dX3_copyFrom_6 fl_X3_9 (x_vC hn (Nat.le_of_ble_eq_true rfl) hr) rfl rfl rfl ?_
  refine g_iconst dX3_copyFrom_9 ?_
  refine g_bipush dX3_copyFrom_10 (by decide) ?_
  refine g_copy dX3_copyFrom_12 cx_X3_31 w_copy1.1 w_copy1.2.1 w_copy1.2.2 (by decide) (Nat.le_of_ble_eq_true rfl) (x_vC hn (Nat.le_of_ble_eq_true rfl) hr) (x_vC hn (Nat.le_of_ble_eq_true rfl) hq) rfl rfl rfl (Nat.le_of_ble_eq_true rfl) (Nat.le_of_ble_eq_true rfl) ?_
  refine g_aload_n dX3_copyFrom_15 rfl ?_
  refine g_getR (t2 := 7) (i2 := q) dX3_copyFrom_16 fl_X3_15 (x_vC hn (Nat.le_of_ble_eq_true rfl) hq) rfl rfl rfl ?_
  refine g_iconst dX3_copyFrom_19 ?_
  refine g_aload_n dX3_copyFrom_20 rfl ?_
  refine g_getR (t2 := 7) (i2 := r) dX3_copyFrom_21 fl_X3_15 (x_vC hn (Nat.le_of_ble_eq_true rfl) hr) rfl rfl rfl ?_
  refine g_iconst dX3_copyFrom_24 ?_
  refine g_bipush dX3_copyFrom_25 (by decide) ?_
  refine g_copy dX3_copyFrom_27 cx_X3_31 w_copy1.1 w_copy1.2.1 w_copy1.2.2 (by decide) (Nat.le_of_ble_eq_true rfl) (x_vC hn (Nat.le_of_ble_eq_true rfl) hr) (x_vC hn (Nat.le_of_ble_eq_true rfl) hq) rfl rfl rfl (Nat.le_of_ble_eq_true rfl) (Nat.le_of_ble_eq_true rfl) ?_
  refine g_aload_n dX3_copyFrom_30 rfl ?_
  refine g_getR (t2 := 8) (i2 := q) dX3_copyFrom_31 fl_X3_18 (x_vC hn (Nat.le_of_ble_eq_true rfl) hq) rfl rfl rfl ?_
  refine g_iconst dX3_copyFrom_34 ?_
  refine g_aload_n dX3_copyFrom_35 rfl ?_
  refine g_getR (t2 := 8) (i2 := r) dX3_copyFrom_36 fl_X3_18 (x_vC hn (Nat.le_of_ble_eq_true rfl) hr) rfl rfl rfl ?_
  refine g_iconst dX3_copyFrom_39 ?_
  refine g_bipush dX3_copyFrom_40 (by decide) ?_
  refine g_copy dX3_copyFrom_42 cx_X3_31 w_copy1.1 w_copy1.2.1 w_copy1.2.2 (by decide) (Nat.le_of_ble_eq_true rfl) (x_vC hn (Nat.le_of_ble_eq_true rfl) hr) (x_vC hn (Nat.le_of_ble_eq_true rfl) hq) rfl rfl rfl (Nat.le_of_ble_eq_true rfl) (Nat.le_of_ble_eq_true rfl) ?_
  refine g_aload_n dX3_copyFrom_45 rfl ?_
  refine g_getR (t2 := 9) (i2 := q) dX3_copyFrom_46 fl_X3_21 (x_vC hn (Nat.le_of_ble_eq_true rfl) hq) rfl rfl rfl ?_
  refine g_iconst dX3_copyFrom_49 ?_
  refine g_aload_n dX3_copyFrom_50 rfl ?_
  refine g_getR (t2 := 9) (i2 := r) dX3_copyFrom_51 fl_X3_21 (x_vC hn (Nat.le_of_ble_eq_true rfl) hr) rfl rfl rfl ?_
  refine g_iconst dX3_copyFrom_54 ?_
  refine g_bipush dX3_copyFrom_55 (by decide) ?_
  refine g_copy dX3_copyFrom_57 cx_X3_31 w_copy1.1 w_copy1.2.1 w_copy1.2.2 (by decide) (Nat.le_of_ble_eq_true rfl) (x_vC hn (Nat.le_of_ble_eq_true rfl) hr) (x_vC hn (Nat.le_of_ble_eq_true rfl) hq) rfl rfl rfl (Nat.le_of_ble_eq_true rfl) (Nat.le_of_ble_eq_true rfl) ?_
  refine g_aload_n dX3_copyFrom_60 rfl ?_
  refine g_aload_n dX3_copyFrom_61 rfl ?_
  refine g_getI dX3_copyFrom_62 fl_X3_24 (x_vC hn (Nat.le_of_ble_eq_true rfl) hq) rfl rfl ?_
  refine g_putI dX3_copyFrom_65 fl_X3_24 (x_vC hn (Nat.le_of_ble_eq_true rfl) hr) rfl rfl ?_
  refine g_aload_n dX3_copyFrom_68 rfl ?_
  refine g_aload_n dX3_copyFrom_69 rfl ?_
  refine g_getI dX3_copyFrom_70 fl_X3_28 (x_vC hn (Nat.le_of_ble_eq_true rfl) hq) rfl rfl ?_
  refine g_putI dX3_copyFrom_73 fl_X3_28 (x_vC hn (Nat.le_of_ble_eq_true rfl) hr) rfl rfl ?_
  refine g_mem (T_X3_copyFrom_1 σ r q) rfl ?_
  exact f_vret dX3_copyFrom_76 rfl rfl

def V_X3_fact (σ : xMi) (r : Nat) (p : Nat) (w : Int) : Int := (if x_wr w = 0 then (σ 6 r p) else (if x_wr w = 1 then (σ 7 r p) else (if x_wr w = 2 then (σ 8 r p) else (σ 9 r p))))
theorem c_X3_fact (l : Launch) (n : Nat) (σ : xMi) (r : Nat) (p : Nat) (w : Int) (hn : 131 ≤ n) (hr : r < 3) (hp : p < 6)  : x_F l yX3_fact RX3 cX3_fact 3 (some .int) 0 n σ [xR 5 r, xI (p : Int), xI w] (some (xI (V_X3_fact σ r p w))) σ := by
  refine f_of (by decide) rfl (Nat.le_of_ble_eq_true rfl) rfl ?_
  refine g_iload_n dX3_fact_0 rfl ?_
  by_cases s_1_0 : x_wr w = 0
  · refine g_tin 28 dX3_fact_1 (by omega) (by omega) (by rw [s_1_0]; rfl) rfl ?_
    refine g_aload_n dX3_fact_28 rfl ?_
    refine g_getR (t2 := 6) (i2 := r) dX3_fact_29 fl_X3_9 (x_vC hn (Nat.le_of_ble_eq_true rfl) hr) rfl rfl rfl ?_
    refine g_iload_n dX3_fact_32 rfl ?_
    refine g_iald p dX3_fact_33 rfl hp (x_vC hn (Nat.le_of_ble_eq_true rfl) hr) rfl ?_
    exact f_iret dX3_fact_34 (by rw [V_X3_fact, if_pos s_1_0]) rfl
  · by_cases s_1_1 : x_wr w = 1
    · refine g_tin 35 dX3_fact_1 (by omega) (by omega) (by rw [s_1_1]; rfl) rfl ?_
      refine g_aload_n dX3_fact_35 rfl ?_
      refine g_getR (t2 := 7) (i2 := r) dX3_fact_36 fl_X3_15 (x_vC hn (Nat.le_of_ble_eq_true rfl) hr) rfl rfl rfl ?_
      refine g_iload_n dX3_fact_39 rfl ?_
      refine g_iald p dX3_fact_40 rfl hp (x_vC hn (Nat.le_of_ble_eq_true rfl) hr) rfl ?_
      exact f_iret dX3_fact_41 (by rw [V_X3_fact, if_neg s_1_0, if_pos s_1_1]) rfl
    · by_cases s_1_2 : x_wr w = 2
      · refine g_tin 42 dX3_fact_1 (by omega) (by omega) (by rw [s_1_2]; rfl) rfl ?_
        refine g_aload_n dX3_fact_42 rfl ?_
        refine g_getR (t2 := 8) (i2 := r) dX3_fact_43 fl_X3_18 (x_vC hn (Nat.le_of_ble_eq_true rfl) hr) rfl rfl rfl ?_
        refine g_iload_n dX3_fact_46 rfl ?_
        refine g_iald p dX3_fact_47 rfl hp (x_vC hn (Nat.le_of_ble_eq_true rfl) hr) rfl ?_
        exact f_iret dX3_fact_48 (by rw [V_X3_fact, if_neg s_1_0, if_neg s_1_1, if_pos s_1_2]) rfl
      · refine g_tout 49 dX3_fact_1 (by omega) rfl ?_
        refine g_aload_n dX3_fact_49 rfl ?_
        refine g_getR (t2 := 9) (i2 := r) dX3_fact_50 fl_X3_21 (x_vC hn (Nat.le_of_ble_eq_true rfl) hr) rfl rfl rfl ?_
        refine g_iload_n dX3_fact_53 rfl ?_
        refine g_iald p dX3_fact_54 rfl hp (x_vC hn (Nat.le_of_ble_eq_true rfl) hr) rfl ?_
        exact f_iret dX3_fact_55 (by rw [V_X3_fact, if_neg s_1_0, if_neg s_1_1, if_neg s_1_2]) rfl

def V_X5_append (σ : xMi) (c1 : Int) (z : Nat) : Int := (if x_wr 200 ≤ x_wr (σ 10 0 2) then (σ 10 0 2) else ((x_up (x_up σ 11 0 z (x_chr c1)) 10 0 2 (((x_up σ 11 0 z (x_chr c1)) 10 0 2) + 1)) 10 0 2))
def S_X5_append (σ : xMi) (c1 : Int) (z : Nat) : xMi := (if x_wr 200 ≤ x_wr (σ 10 0 2) then σ else (x_up (x_up σ 11 0 z (x_chr c1)) 10 0 2 (((x_up σ 11 0 z (x_chr c1)) 10 0 2) + 1)))
theorem fr_S_X5_append (σ : xMi) (c1 : Int) (z : Nat) {t i k : Nat} (h : ¬ (t = 10 ∨ t = 11)) : S_X5_append σ c1 z t i k = σ t i k := by
  unfold S_X5_append
  all_goals ((repeat' split) <;> first | rfl | simp (disch := first | omega | assumption) only [x_up_o, x_up_k, x_cp_o])
theorem c_X5_append (l : Launch) (n : Nat) (σ : xMi) (c1 : Int) (z : Nat) (hn : 131 ≤ n) (hz2 : z ≤ 200) (hz : σ 10 0 2 = (z : Int)) : x_F l yX5_append RX5 cX5_append 2 (some .int) 0 n σ [xR 10 0, xI c1] (some (xI (V_X5_append σ c1 z))) (S_X5_append σ c1 z) := by
  refine f_of (by decide) rfl (Nat.le_of_ble_eq_true rfl) rfl ?_
  refine g_aload_n dX5_append_0 rfl ?_
  refine g_getI dX5_append_1 fl_X5_19 (x_vC hn (Nat.le_of_ble_eq_true rfl) (Nat.le_of_ble_eq_true rfl)) rfl rfl ?_
  refine g_sipush dX5_append_4 (by decide) ?_
  refine g_cmp_ge 31 dX5_append_7 rfl (fun c_7 => ?_) (fun c_7 => ?_)
  · refine g_aload_n dX5_append_31 rfl ?_
    refine g_getI dX5_append_32 fl_X5_19 (x_vC hn (Nat.le_of_ble_eq_true rfl) (Nat.le_of_ble_eq_true rfl)) rfl rfl ?_
    exact f_iret dX5_append_35 (by rw [V_X5_append, if_pos c_7]) (by rw [S_X5_append, if_pos c_7])
  · have hz5 : z < 200 := by rw [hz, x_nat (by omega), show x_wr 200 = 200 from by decide] at c_7; omega
    refine g_aload_n dX5_append_10 rfl ?_
    refine g_getR (t2 := 11) (i2 := 0) dX5_append_11 fl_X5_9 (x_vC hn (Nat.le_of_ble_eq_true rfl) (Nat.le_of_ble_eq_true rfl)) rfl rfl rfl ?_
    refine g_aload_n dX5_append_14 rfl ?_
    refine g_getI dX5_append_15 fl_X5_19 (x_vC hn (Nat.le_of_ble_eq_true rfl) (Nat.le_of_ble_eq_true rfl)) rfl rfl ?_
    refine g_eqI ((z : Nat) : Int) hz ?_
    refine g_iload_n dX5_append_18 rfl ?_
    refine g_i2c dX5_append_19 ?_
    refine g_cast z dX5_append_20 rfl hz5 (x_vC hn (Nat.le_of_ble_eq_true rfl) (Nat.le_of_ble_eq_true rfl)) rfl (x_chr_nar _) ?_
    refine g_aload_n dX5_append_21 rfl ?_
    refine g_dup dX5_append_22 rfl ?_
    refine g_getI dX5_append_23 fl_X5_19 (x_vC hn (Nat.le_of_ble_eq_true rfl) (Nat.le_of_ble_eq_true rfl)) rfl rfl ?_
    refine g_iconst dX5_append_26 ?_
    refine g_iadd dX5_append_27 ?_
    refine g_putI dX5_append_28 fl_X5_19 (x_vC hn (Nat.le_of_ble_eq_true rfl) (Nat.le_of_ble_eq_true rfl)) rfl rfl ?_
    refine g_aload_n dX5_append_31 rfl ?_
    refine g_getI dX5_append_32 fl_X5_19 (x_vC hn (Nat.le_of_ble_eq_true rfl) (Nat.le_of_ble_eq_true rfl)) rfl rfl ?_
    exact f_iret dX5_append_35 (by rw [V_X5_append, if_neg c_7]) (by rw [S_X5_append, if_neg c_7])

def V_X5_empty (σ : xMi)  : Int := (σ 10 0 2)
def S_X5_empty (σ : xMi)  : xMi := (x_up σ 10 0 2 0)
theorem fr_S_X5_empty (σ : xMi)  {t i k : Nat} (h : ¬ (t = 10)) : S_X5_empty σ  t i k = σ t i k := by
  unfold S_X5_empty
  all_goals ((repeat' split) <;> first | rfl | simp (disch := first | omega | assumption) only [x_up_o, x_up_k, x_cp_o])
theorem c_X5_empty (l : Launch) (n : Nat) (σ : xMi)  (hn : 131 ≤ n)   : x_F l yX5_empty RX5 cX5_empty 2 (some .int) 0 n σ [xR 10 0] (some (xI (V_X5_empty σ ))) (S_X5_empty σ ) := by
  refine f_of (by decide) rfl (Nat.le_of_ble_eq_true rfl) rfl ?_
  refine g_aload_n dX5_empty_0 rfl ?_
  refine g_getI dX5_empty_1 fl_X5_19 (x_vC hn (Nat.le_of_ble_eq_true rfl) (Nat.le_of_ble_eq_true rfl)) rfl rfl ?_
  refine g_istore_n (lv' := [_, _]) dX5_empty_4 (Nat.le_of_ble_eq_true rfl) rfl ?_
  refine g_aload_n dX5_empty_5 rfl ?_
  refine g_iconst dX5_empty_6 ?_
  refine g_putI dX5_empty_7 fl_X5_19 (x_vC hn (Nat.le_of_ble_eq_true rfl) (Nat.le_of_ble_eq_true rfl)) rfl rfl ?_
  refine g_iload_n dX5_empty_10 rfl ?_
  exact f_iret dX5_empty_11 rfl rfl

def V_X5_letterAt (σ : xMi) (a : Nat) : Int := (if x_wr (σ 10 0 2) ≤ x_wr (a : Int) then 0 else (if x_wr 200 ≤ x_wr (a : Int) then 0 else (σ 11 0 a)))
theorem c_X5_letterAt (l : Launch) (n : Nat) (σ : xMi) (a : Nat) (hn : 131 ≤ n) (ha : a ≤ 1000000) (hch : ∀ k, 0 ≤ σ 11 0 k ∧ σ 11 0 k < 65536) : x_F l yX5_letterAt RX5 cX5_letterAt 2 (some .char) 0 n σ [xR 10 0, xI (a : Int)] (some (xI (V_X5_letterAt σ a))) σ := by
  refine f_of (by decide) rfl (Nat.le_of_ble_eq_true rfl) rfl ?_
  refine g_iload_n dX5_letterAt_0 rfl ?_
  refine g_if_lt 28 dX5_letterAt_1 rfl (fun c_1 => absurd c_1 (by rw [x_nat (by omega)]; omega)) (fun c_1 => ?_)
  refine g_iload_n dX5_letterAt_4 rfl ?_
  refine g_aload_n dX5_letterAt_5 rfl ?_
  refine g_getI dX5_letterAt_6 fl_X5_19 (x_vC hn (Nat.le_of_ble_eq_true rfl) (Nat.le_of_ble_eq_true rfl)) rfl rfl ?_
  refine g_cmp_ge 28 dX5_letterAt_9 rfl (fun c_9 => ?_) (fun c_9 => ?_)
  · refine g_iconst dX5_letterAt_28 ?_
    exact f_cret dX5_letterAt_29 rfl (by rw [V_X5_letterAt, if_pos c_9]) rfl
  · refine g_iload_n dX5_letterAt_12 rfl ?_
    refine g_sipush dX5_letterAt_13 (by decide) ?_
    refine g_cmp_ge 28 dX5_letterAt_16 rfl (fun c_16 => ?_) (fun c_16 => ?_)
    · refine g_iconst dX5_letterAt_28 ?_
      exact f_cret dX5_letterAt_29 rfl (by rw [V_X5_letterAt, if_neg c_9, if_pos c_16]) rfl
    · refine g_aload_n dX5_letterAt_19 rfl ?_
      refine g_getR (t2 := 11) (i2 := 0) dX5_letterAt_20 fl_X5_9 (x_vC hn (Nat.le_of_ble_eq_true rfl) (Nat.le_of_ble_eq_true rfl)) rfl rfl rfl ?_
      have ha2 : a < 200 := by rw [x_nat (by omega), show x_wr 200 = 200 from by decide] at c_16; omega
      refine g_iload_n dX5_letterAt_23 rfl ?_
      refine g_cald a dX5_letterAt_24 rfl ha2 (x_vC hn (Nat.le_of_ble_eq_true rfl) (Nat.le_of_ble_eq_true rfl)) rfl ?_
      refine g_goto 29 dX5_letterAt_25 rfl ?_
      exact f_cret dX5_letterAt_29 (x_nchar (hch _).1 (hch _).2) (by rw [V_X5_letterAt, if_neg c_9, if_neg c_16]) rfl

def V_X5_isFigure (σ : xMi) (a : Nat) : Int := (if x_wr (V_X5_letterAt σ a) < x_wr 48 then 0 else (if x_wr 57 < x_wr (V_X5_letterAt σ a) then 0 else 1))
theorem z_X5_isFigure (σ : xMi) (a : Nat) : V_X5_isFigure σ a = 0 ∨ V_X5_isFigure σ a = 1 := by
  unfold V_X5_isFigure
  (repeat' split) <;> first | exact Or.inl rfl | exact Or.inr rfl
theorem c_X5_isFigure (l : Launch) (n : Nat) (σ : xMi) (a : Nat) (hn : 131 ≤ n) (ha : a ≤ 1000000) (hch : ∀ k, 0 ≤ σ 11 0 k ∧ σ 11 0 k < 65536) : x_F l yX5_isFigure RX5 cX5_isFigure 3 (some .boolean) 1 n σ [xR 10 0, xI (a : Int)] (some (xI (V_X5_isFigure σ a))) σ := by
  refine f_of (by decide) rfl (Nat.le_of_ble_eq_true rfl) rfl ?_
  refine g_aload_n dX5_isFigure_0 rfl ?_
  refine g_iload_n dX5_isFigure_1 rfl ?_
  refine f_V dX5_isFigure_2 cs_X5_32 mb_X5_letterAt (c_X5_letterAt l n _ a hn ha hch) rfl (x_vC hn (Nat.le_of_ble_eq_true rfl) (Nat.le_of_ble_eq_true rfl)) rfl rfl rfl (Nat.le_of_ble_eq_true rfl) (by decide) (Nat.le_of_ble_eq_true rfl) (Nat.le_refl _) (Nat.le_refl _) ?_
  refine g_istore_n (lv' := [_, _, _]) dX5_isFigure_5 (Nat.le_of_ble_eq_true rfl) rfl ?_
  refine g_iload_n dX5_isFigure_6 rfl ?_
  refine g_bipush dX5_isFigure_7 (by decide) ?_
  refine g_cmp_lt 22 dX5_isFigure_9 rfl (fun c_9 => ?_) (fun c_9 => ?_)
  · refine g_iconst dX5_isFigure_22 ?_
    exact f_zret dX5_isFigure_23 (by decide) (by rw [V_X5_isFigure, if_pos c_9]) rfl
  · refine g_iload_n dX5_isFigure_12 rfl ?_
    refine g_bipush dX5_isFigure_13 (by decide) ?_
    refine g_cmp_gt 22 dX5_isFigure_15 rfl (fun c_15 => ?_) (fun c_15 => ?_)
    · refine g_iconst dX5_isFigure_22 ?_
      exact f_zret dX5_isFigure_23 (by decide) (by rw [V_X5_isFigure, if_neg c_9, if_pos c_15]) rfl
    · refine g_iconst dX5_isFigure_18 ?_
      refine g_goto 23 dX5_isFigure_19 rfl ?_
      exact f_zret dX5_isFigure_23 (by decide) (by rw [V_X5_isFigure, if_neg c_9, if_neg c_15]) rfl

def RV_X5_readNumbers_5 (a : Nat) (w : Nat) : Nat → Nat → xMi → Nat → Int
  | 0, e, σ, q => (q : Int)
  | k + 1, e, σ, q => (if x_wr (V_X5_isFigure σ q) = 0 then (-4) else (if x_wr (V_X5_isFigure σ (q + 1)) = 0 then (if x_wr (e : Int) = x_wr ((w : Int) - 1) then (if x_wr (V_X5_letterAt (x_up σ 12 0 e ((V_X5_letterAt σ q) - 48)) (q + 1)) = x_wr 59 then (RV_X5_readNumbers_5 a w k (e + 1) (x_up σ 12 0 e ((V_X5_letterAt σ q) - 48)) ((q + 1) + 1)) else (-4)) else (if x_wr (V_X5_letterAt (x_up σ 12 0 e ((V_X5_letterAt σ q) - 48)) (q + 1)) = x_wr 44 then (RV_X5_readNumbers_5 a w k (e + 1) (x_up σ 12 0 e ((V_X5_letterAt σ q) - 48)) ((q + 1) + 1)) else (-4))) else (if x_wr (e : Int) = x_wr ((w : Int) - 1) then (if x_wr (V_X5_letterAt (x_up σ 12 0 e (((((V_X5_letterAt σ q) - 48) * 10) + (V_X5_letterAt σ (q + 1))) - 48)) ((q + 1) + 1)) = x_wr 59 then (RV_X5_readNumbers_5 a w k (e + 1) (x_up σ 12 0 e (((((V_X5_letterAt σ q) - 48) * 10) + (V_X5_letterAt σ (q + 1))) - 48)) (((q + 1) + 1) + 1)) else (-4)) else (if x_wr (V_X5_letterAt (x_up σ 12 0 e (((((V_X5_letterAt σ q) - 48) * 10) + (V_X5_letterAt σ (q + 1))) - 48)) ((q + 1) + 1)) = x_wr 44 then (RV_X5_readNumbers_5 a w k (e + 1) (x_up σ 12 0 e (((((V_X5_letterAt σ q) - 48) * 10) + (V_X5_letterAt σ (q + 1))) - 48)) (((q + 1) + 1) + 1)) else (-4)))))
def RS_X5_readNumbers_5 (a : Nat) (w : Nat) : Nat → Nat → xMi → Nat → xMi
  | 0, e, σ, q => σ
  | k + 1, e, σ, q => (if x_wr (V_X5_isFigure σ q) = 0 then σ else (if x_wr (V_X5_isFigure σ (q + 1)) = 0 then (if x_wr (e : Int) = x_wr ((w : Int) - 1) then (if x_wr (V_X5_letterAt (x_up σ 12 0 e ((V_X5_letterAt σ q) - 48)) (q + 1)) = x_wr 59 then (RS_X5_readNumbers_5 a w k (e + 1) (x_up σ 12 0 e ((V_X5_letterAt σ q) - 48)) ((q + 1) + 1)) else (x_up σ 12 0 e ((V_X5_letterAt σ q) - 48))) else (if x_wr (V_X5_letterAt (x_up σ 12 0 e ((V_X5_letterAt σ q) - 48)) (q + 1)) = x_wr 44 then (RS_X5_readNumbers_5 a w k (e + 1) (x_up σ 12 0 e ((V_X5_letterAt σ q) - 48)) ((q + 1) + 1)) else (x_up σ 12 0 e ((V_X5_letterAt σ q) - 48)))) else (if x_wr (e : Int) = x_wr ((w : Int) - 1) then (if x_wr (V_X5_letterAt (x_up σ 12 0 e (((((V_X5_letterAt σ q) - 48) * 10) + (V_X5_letterAt σ (q + 1))) - 48)) ((q + 1) + 1)) = x_wr 59 then (RS_X5_readNumbers_5 a w k (e + 1) (x_up σ 12 0 e (((((V_X5_letterAt σ q) - 48) * 10) + (V_X5_letterAt σ (q + 1))) - 48)) (((q + 1) + 1) + 1)) else (x_up σ 12 0 e (((((V_X5_letterAt σ q) - 48) * 10) + (V_X5_letterAt σ (q + 1))) - 48))) else (if x_wr (V_X5_letterAt (x_up σ 12 0 e (((((V_X5_letterAt σ q) - 48) * 10) + (V_X5_letterAt σ (q + 1))) - 48)) ((q + 1) + 1)) = x_wr 44 then (RS_X5_readNumbers_5 a w k (e + 1) (x_up σ 12 0 e (((((V_X5_letterAt σ q) - 48) * 10) + (V_X5_letterAt σ (q + 1))) - 48)) (((q + 1) + 1) + 1)) else (x_up σ 12 0 e (((((V_X5_letterAt σ q) - 48) * 10) + (V_X5_letterAt σ (q + 1))) - 48))))))
theorem fr_RS_X5_readNumbers_5 (a : Nat) (w : Nat) {t i k' : Nat} (h : ¬ (t = 12)) : ∀ (k e : Nat) (σ : xMi) (q : Nat), RS_X5_readNumbers_5 a w k e σ q t i k' = σ t i k' := by
  intro k
  induction k with
  | zero =>
    intro e σ q
    simp only [RS_X5_readNumbers_5]
    all_goals ((repeat' split) <;> simp (disch := first | omega | assumption) only [x_up_o, x_up_k, x_cp_o])
  | succ k ih =>
    intro e σ q
    simp only [RS_X5_readNumbers_5]
    all_goals (repeat' split)
    all_goals (first | rw [ih] | skip)
    all_goals first | done | simp (disch := first | omega | assumption) only [x_up_o, x_up_k, x_cp_o]
theorem lh_X5_readNumbers_5 (l : Launch) (n : Nat) (a : Nat) (w : Nat) (hn : 131 ≤ n) (ha : a ≤ 1000000) (hw : w ≤ 1000000) (hw4 : w ≤ 4) (ha5 : a ≤ 100000) : ∀ (k e : Nat) (σ : xMi) (q : Nat), e + k = w ∧ q + 10 * k ≤ 200000 → (∀ k, 0 ≤ σ 11 0 k ∧ σ 11 0 k < 65536) →  x_G l RX5 cX5_readNumbers 6 (some .int) 2 n (some (xI (RV_X5_readNumbers_5 a w k e σ q))) (RS_X5_readNumbers_5 a w k e σ q) 5 [(4, xI (e : Int)), (3, xI (q : Int)), (0, xR 10 0), (1, xI (a : Int)), (2, xI (w : Int))] [] σ := by
  intro k
  induction k with
  | zero =>
    intro e σ q hk hch
    refine g_iload dX5_readNumbers_5 rfl ?_
    refine g_iload_n dX5_readNumbers_7 rfl ?_
    refine g_cmp_ge 116 dX5_readNumbers_8 rfl (fun c_8 => ?_) (fun c_8 => absurd (by rw [x_nat (by omega), x_nat (by omega)]; omega) c_8)
    refine g_iload_n dX5_readNumbers_116 rfl ?_
    exact f_iret dX5_readNumbers_117 rfl rfl
  | succ k ih =>
    intro e σ q hk hch
    have he : e < 4 := by omega
    refine g_iload dX5_readNumbers_5 rfl ?_
    refine g_iload_n dX5_readNumbers_7 rfl ?_
    refine g_cmp_ge 116 dX5_readNumbers_8 rfl (fun c_8 => absurd c_8 (by rw [x_nat (by omega), x_nat (by omega)]; omega)) (fun c_8 => ?_)
    refine g_iload dX5_readNumbers_11 rfl ?_
    refine g_aload_n dX5_readNumbers_13 rfl ?_
    refine g_getR (t2 := 12) (i2 := 0) dX5_readNumbers_14 fl_X5_15 (x_vC hn (Nat.le_of_ble_eq_true rfl) (Nat.le_of_ble_eq_true rfl)) rfl rfl rfl ?_
    refine g_alen (v := 4) dX5_readNumbers_17 (x_vC hn (Nat.le_of_ble_eq_true rfl) (Nat.le_of_ble_eq_true rfl)) rfl rfl ?_
    refine g_cmp_ge 116 dX5_readNumbers_18 rfl (fun c_18 => absurd c_18 (by rw [x_nat (by omega), show x_wr 4 = 4 from by decide]; omega)) (fun c_18 => ?_)
    refine g_aload_n dX5_readNumbers_21 rfl ?_
    refine g_iload_n dX5_readNumbers_22 rfl ?_
    refine f_V dX5_readNumbers_23 cs_X5_48 mb_X5_isFigure (c_X5_isFigure l n _ q hn (by omega) hch) rfl (x_vC hn (Nat.le_of_ble_eq_true rfl) (Nat.le_of_ble_eq_true rfl)) rfl rfl rfl (Nat.le_of_ble_eq_true rfl) (by decide) (Nat.le_of_ble_eq_true rfl) (Nat.le_refl _) (Nat.le_refl _) ?_
    refine g_if_ne 32 dX5_readNumbers_26 rfl (fun c_26 => ?_) (fun c_26 => ?_)
    · refine g_aload_n dX5_readNumbers_32 rfl ?_
      refine g_iload_n dX5_readNumbers_33 rfl ?_
      refine f_V dX5_readNumbers_34 cs_X5_32 mb_X5_letterAt (c_X5_letterAt l n _ q hn (by omega) hch) rfl (x_vC hn (Nat.le_of_ble_eq_true rfl) (Nat.le_of_ble_eq_true rfl)) rfl rfl rfl (Nat.le_of_ble_eq_true rfl) (by decide) (Nat.le_of_ble_eq_true rfl) (Nat.le_refl _) (Nat.le_refl _) ?_
      refine g_bipush dX5_readNumbers_37 (by decide) ?_
      refine g_isub dX5_readNumbers_39 ?_
      refine g_istore (lv' := [_, _, _, _, _, _]) dX5_readNumbers_40 (Nat.le_of_ble_eq_true rfl) rfl ?_
      refine g_iinc (lv' := [(3, xI (((q + 1) : Nat) : Int)), _, _, _, _, _]) dX5_readNumbers_42 (Nat.le_of_ble_eq_true rfl) rfl rfl ?_
      refine g_aload_n dX5_readNumbers_45 rfl ?_
      refine g_iload_n dX5_readNumbers_46 rfl ?_
      refine f_V dX5_readNumbers_47 cs_X5_48 mb_X5_isFigure (c_X5_isFigure l n _ (q + 1) hn (by omega) hch) rfl (x_vC hn (Nat.le_of_ble_eq_true rfl) (Nat.le_of_ble_eq_true rfl)) rfl rfl rfl (Nat.le_of_ble_eq_true rfl) (by decide) (Nat.le_of_ble_eq_true rfl) (Nat.le_refl _) (Nat.le_refl _) ?_
      refine g_if_eq 72 dX5_readNumbers_50 rfl (fun c_50 => ?_) (fun c_50 => ?_)
      · refine g_aload_n dX5_readNumbers_72 rfl ?_
        refine g_getR (t2 := 12) (i2 := 0) dX5_readNumbers_73 fl_X5_15 (x_vC hn (Nat.le_of_ble_eq_true rfl) (Nat.le_of_ble_eq_true rfl)) rfl rfl rfl ?_
        refine g_iload dX5_readNumbers_76 rfl ?_
        refine g_iload dX5_readNumbers_78 rfl ?_
        refine g_iast e dX5_readNumbers_80 rfl he (x_vC hn (Nat.le_of_ble_eq_true rfl) (Nat.le_of_ble_eq_true rfl)) rfl ?_
        refine g_aload_n dX5_readNumbers_81 rfl ?_
        refine g_iload_n dX5_readNumbers_82 rfl ?_
        refine f_V dX5_readNumbers_83 cs_X5_32 mb_X5_letterAt (c_X5_letterAt l n _ (q + 1) hn (by omega) (by first | exact hch | (simp (disch := first | omega | assumption) only [x_up_o, x_up_k, x_cp_o]; exact hch))) rfl (x_vC hn (Nat.le_of_ble_eq_true rfl) (Nat.le_of_ble_eq_true rfl)) rfl rfl rfl (Nat.le_of_ble_eq_true rfl) (by decide) (Nat.le_of_ble_eq_true rfl) (Nat.le_refl _) (Nat.le_refl _) ?_
        refine g_iload dX5_readNumbers_86 rfl ?_
        refine g_iload_n dX5_readNumbers_88 rfl ?_
        refine g_iconst dX5_readNumbers_89 ?_
        refine g_isub dX5_readNumbers_90 ?_
        refine g_cmp_ne 99 dX5_readNumbers_91 rfl (fun c_91 => ?_) (fun c_91 => ?_)
        · refine g_bipush dX5_readNumbers_99 (by decide) ?_
          refine g_cmp_eq 107 dX5_readNumbers_101 rfl (fun c_101 => ?_) (fun c_101 => ?_)
          · refine g_iinc (lv' := [(3, xI ((((q + 1) + 1) : Nat) : Int)), _, _, _, _, _]) dX5_readNumbers_107 (Nat.le_of_ble_eq_true rfl) rfl rfl ?_
            refine g_iinc (lv' := [(4, xI (((e + 1) : Nat) : Int)), _, _, _, _, _]) dX5_readNumbers_110 (Nat.le_of_ble_eq_true rfl) rfl rfl ?_
            refine g_goto 5 dX5_readNumbers_113 rfl ?_
            refine g_sub (lv2 := [(4, xI (((e + 1) : Nat) : Int)), (3, xI ((((q + 1) + 1) : Nat) : Int)), _, _, _]) [0, 1, 3, 4, 5] rfl ?_
            exact f_cv (by rw [RV_X5_readNumbers_5, if_neg c_26, if_pos c_50, if_neg c_91, if_pos c_101]) (by rw [RS_X5_readNumbers_5, if_neg c_26, if_pos c_50, if_neg c_91, if_pos c_101]) (ih (e + 1) _ ((q + 1) + 1) (by omega) (by first | exact hch | (simp (disch := omega) only [x_up_o, x_up_k, x_cp_o]; exact hch) | (simp (disch := first | omega | assumption) only [x_up_o, x_up_k, x_cp_o]; exact hch)))
          · refine g_bipush dX5_readNumbers_104 (by decide) ?_
            exact f_iret dX5_readNumbers_106 (by rw [RV_X5_readNumbers_5, if_neg c_26, if_pos c_50, if_neg c_91, if_neg c_101]) (by rw [RS_X5_readNumbers_5, if_neg c_26, if_pos c_50, if_neg c_91, if_neg c_101])
        · refine g_bipush dX5_readNumbers_94 (by decide) ?_
          refine g_goto 101 dX5_readNumbers_96 rfl ?_
          refine g_cmp_eq 107 dX5_readNumbers_101 rfl (fun c_101 => ?_) (fun c_101 => ?_)
          · refine g_iinc (lv' := [(3, xI ((((q + 1) + 1) : Nat) : Int)), _, _, _, _, _]) dX5_readNumbers_107 (Nat.le_of_ble_eq_true rfl) rfl rfl ?_
            refine g_iinc (lv' := [(4, xI (((e + 1) : Nat) : Int)), _, _, _, _, _]) dX5_readNumbers_110 (Nat.le_of_ble_eq_true rfl) rfl rfl ?_
            refine g_goto 5 dX5_readNumbers_113 rfl ?_
            refine g_sub (lv2 := [(4, xI (((e + 1) : Nat) : Int)), (3, xI ((((q + 1) + 1) : Nat) : Int)), _, _, _]) [0, 1, 3, 4, 5] rfl ?_
            exact f_cv (by rw [RV_X5_readNumbers_5, if_neg c_26, if_pos c_50, if_pos c_91, if_pos c_101]) (by rw [RS_X5_readNumbers_5, if_neg c_26, if_pos c_50, if_pos c_91, if_pos c_101]) (ih (e + 1) _ ((q + 1) + 1) (by omega) (by first | exact hch | (simp (disch := omega) only [x_up_o, x_up_k, x_cp_o]; exact hch) | (simp (disch := first | omega | assumption) only [x_up_o, x_up_k, x_cp_o]; exact hch)))
          · refine g_bipush dX5_readNumbers_104 (by decide) ?_
            exact f_iret dX5_readNumbers_106 (by rw [RV_X5_readNumbers_5, if_neg c_26, if_pos c_50, if_pos c_91, if_neg c_101]) (by rw [RS_X5_readNumbers_5, if_neg c_26, if_pos c_50, if_pos c_91, if_neg c_101])
      · refine g_iload dX5_readNumbers_53 rfl ?_
        refine g_bipush dX5_readNumbers_55 (by decide) ?_
        refine g_imul dX5_readNumbers_57 ?_
        refine g_aload_n dX5_readNumbers_58 rfl ?_
        refine g_iload_n dX5_readNumbers_59 rfl ?_
        refine f_V dX5_readNumbers_60 cs_X5_32 mb_X5_letterAt (c_X5_letterAt l n _ (q + 1) hn (by omega) hch) rfl (x_vC hn (Nat.le_of_ble_eq_true rfl) (Nat.le_of_ble_eq_true rfl)) rfl rfl rfl (Nat.le_of_ble_eq_true rfl) (by decide) (Nat.le_of_ble_eq_true rfl) (Nat.le_refl _) (Nat.le_refl _) ?_
        refine g_iadd dX5_readNumbers_63 ?_
        refine g_bipush dX5_readNumbers_64 (by decide) ?_
        refine g_isub dX5_readNumbers_66 ?_
        refine g_istore (lv' := [_, _, _, _, _, _]) dX5_readNumbers_67 (Nat.le_of_ble_eq_true rfl) rfl ?_
        refine g_iinc (lv' := [(3, xI ((((q + 1) + 1) : Nat) : Int)), _, _, _, _, _]) dX5_readNumbers_69 (Nat.le_of_ble_eq_true rfl) rfl rfl ?_
        refine g_aload_n dX5_readNumbers_72 rfl ?_
        refine g_getR (t2 := 12) (i2 := 0) dX5_readNumbers_73 fl_X5_15 (x_vC hn (Nat.le_of_ble_eq_true rfl) (Nat.le_of_ble_eq_true rfl)) rfl rfl rfl ?_
        refine g_iload dX5_readNumbers_76 rfl ?_
        refine g_iload dX5_readNumbers_78 rfl ?_
        refine g_iast e dX5_readNumbers_80 rfl he (x_vC hn (Nat.le_of_ble_eq_true rfl) (Nat.le_of_ble_eq_true rfl)) rfl ?_
        refine g_aload_n dX5_readNumbers_81 rfl ?_
        refine g_iload_n dX5_readNumbers_82 rfl ?_
        refine f_V dX5_readNumbers_83 cs_X5_32 mb_X5_letterAt (c_X5_letterAt l n _ ((q + 1) + 1) hn (by omega) (by first | exact hch | (simp (disch := first | omega | assumption) only [x_up_o, x_up_k, x_cp_o]; exact hch))) rfl (x_vC hn (Nat.le_of_ble_eq_true rfl) (Nat.le_of_ble_eq_true rfl)) rfl rfl rfl (Nat.le_of_ble_eq_true rfl) (by decide) (Nat.le_of_ble_eq_true rfl) (Nat.le_refl _) (Nat.le_refl _) ?_
        refine g_iload dX5_readNumbers_86 rfl ?_
        refine g_iload_n dX5_readNumbers_88 rfl ?_
        refine g_iconst dX5_readNumbers_89 ?_
        refine g_isub dX5_readNumbers_90 ?_
        refine g_cmp_ne 99 dX5_readNumbers_91 rfl (fun c_91 => ?_) (fun c_91 => ?_)
        · refine g_bipush dX5_readNumbers_99 (by decide) ?_
          refine g_cmp_eq 107 dX5_readNumbers_101 rfl (fun c_101 => ?_) (fun c_101 => ?_)
          · refine g_iinc (lv' := [(3, xI (((((q + 1) + 1) + 1) : Nat) : Int)), _, _, _, _, _]) dX5_readNumbers_107 (Nat.le_of_ble_eq_true rfl) rfl rfl ?_
            refine g_iinc (lv' := [(4, xI (((e + 1) : Nat) : Int)), _, _, _, _, _]) dX5_readNumbers_110 (Nat.le_of_ble_eq_true rfl) rfl rfl ?_
            refine g_goto 5 dX5_readNumbers_113 rfl ?_
            refine g_sub (lv2 := [(4, xI (((e + 1) : Nat) : Int)), (3, xI (((((q + 1) + 1) + 1) : Nat) : Int)), _, _, _]) [0, 1, 3, 4, 5] rfl ?_
            exact f_cv (by rw [RV_X5_readNumbers_5, if_neg c_26, if_neg c_50, if_neg c_91, if_pos c_101]) (by rw [RS_X5_readNumbers_5, if_neg c_26, if_neg c_50, if_neg c_91, if_pos c_101]) (ih (e + 1) _ (((q + 1) + 1) + 1) (by omega) (by first | exact hch | (simp (disch := omega) only [x_up_o, x_up_k, x_cp_o]; exact hch) | (simp (disch := first | omega | assumption) only [x_up_o, x_up_k, x_cp_o]; exact hch)))
          · refine g_bipush dX5_readNumbers_104 (by decide) ?_
            exact f_iret dX5_readNumbers_106 (by rw [RV_X5_readNumbers_5, if_neg c_26, if_neg c_50, if_neg c_91, if_neg c_101]) (by rw [RS_X5_readNumbers_5, if_neg c_26, if_neg c_50, if_neg c_91, if_neg c_101])
        · refine g_bipush dX5_readNumbers_94 (by decide) ?_
          refine g_goto 101 dX5_readNumbers_96 rfl ?_
          refine g_cmp_eq 107 dX5_readNumbers_101 rfl (fun c_101 => ?_) (fun c_101 => ?_)
          · refine g_iinc (lv' := [(3, xI (((((q + 1) + 1) + 1) : Nat) : Int)), _, _, _, _, _]) dX5_readNumbers_107 (Nat.le_of_ble_eq_true rfl) rfl rfl ?_
            refine g_iinc (lv' := [(4, xI (((e + 1) : Nat) : Int)), _, _, _, _, _]) dX5_readNumbers_110 (Nat.le_of_ble_eq_true rfl) rfl rfl ?_
            refine g_goto 5 dX5_readNumbers_113 rfl ?_
            refine g_sub (lv2 := [(4, xI (((e + 1) : Nat) : Int)), (3, xI (((((q + 1) + 1) + 1) : Nat) : Int)), _, _, _]) [0, 1, 3, 4, 5] rfl ?_
            exact f_cv (by rw [RV_X5_readNumbers_5, if_neg c_26, if_neg c_50, if_pos c_91, if_pos c_101]) (by rw [RS_X5_readNumbers_5, if_neg c_26, if_neg c_50, if_pos c_91, if_pos c_101]) (ih (e + 1) _ (((q + 1) + 1) + 1) (by omega) (by first | exact hch | (simp (disch := omega) only [x_up_o, x_up_k, x_cp_o]; exact hch) | (simp (disch := first | omega | assumption) only [x_up_o, x_up_k, x_cp_o]; exact hch)))
          · refine g_bipush dX5_readNumbers_104 (by decide) ?_
            exact f_iret dX5_readNumbers_106 (by rw [RV_X5_readNumbers_5, if_neg c_26, if_neg c_50, if_pos c_91, if_neg c_101]) (by rw [RS_X5_readNumbers_5, if_neg c_26, if_neg c_50, if_pos c_91, if_neg c_101])
    · refine g_bipush dX5_readNumbers_29 (by decide) ?_
      exact f_iret dX5_readNumbers_31 (by rw [RV_X5_readNumbers_5, if_pos c_26]) (by rw [RS_X5_readNumbers_5, if_pos c_26])
def V_X5_readNumbers (σ : xMi) (a : Nat) (w : Nat) : Int := (RV_X5_readNumbers_5 a w w 0 σ a)
def S_X5_readNumbers (σ : xMi) (a : Nat) (w : Nat) : xMi := (RS_X5_readNumbers_5 a w w 0 σ a)
theorem fr_S_X5_readNumbers (σ : xMi) (a : Nat) (w : Nat) {t i k : Nat} (h : ¬ (t = 12)) : S_X5_readNumbers σ a w t i k = σ t i k := by
  unfold S_X5_readNumbers
  all_goals ((repeat' split) <;> first | rfl | simp (disch := first | omega | assumption) only [x_up_o, x_up_k, x_cp_o, fr_RS_X5_readNumbers_5])
theorem c_X5_readNumbers (l : Launch) (n : Nat) (σ : xMi) (a : Nat) (w : Nat) (hn : 131 ≤ n) (ha : a ≤ 1000000) (hw : w ≤ 1000000) (hw4 : w ≤ 4) (ha5 : a ≤ 100000) (hch : ∀ k, 0 ≤ σ 11 0 k ∧ σ 11 0 k < 65536) : x_F l yX5_readNumbers RX5 cX5_readNumbers 6 (some .int) 2 n σ [xR 10 0, xI (a : Int), xI (w : Int)] (some (xI (V_X5_readNumbers σ a w))) (S_X5_readNumbers σ a w) := by
  refine f_of (by decide) rfl (Nat.le_of_ble_eq_true rfl) rfl ?_
  refine g_iload_n dX5_readNumbers_0 rfl ?_
  refine g_istore_n (lv' := [_, _, _, _]) dX5_readNumbers_1 (Nat.le_of_ble_eq_true rfl) rfl ?_
  refine g_iconst dX5_readNumbers_2 ?_
  refine g_istore (lv' := [_, _, _, _, _]) dX5_readNumbers_3 (Nat.le_of_ble_eq_true rfl) rfl ?_
  refine g_sub (lv2 := [(4, xI ((0 : Nat) : Int)), (3, xI ((a : Nat) : Int)), _, _, _]) [0, 1, 2, 3, 4] rfl ?_
  exact f_cv rfl rfl (lh_X5_readNumbers_5 l n a w hn ha hw hw4 ha5 w 0 _ a (by omega) hch)

theorem b_X5_RV (a w : Nat) : ∀ (k e : Nat) (σ : xMi) (q : Nat), -4 ≤ RV_X5_readNumbers_5 a w k e σ q ∧ RV_X5_readNumbers_5 a w k e σ q ≤ q + 3 * k := by
  intro k
  induction k with
  | zero => intro e σ q; simp only [RV_X5_readNumbers_5]; omega
  | succ k ih =>
    intro e σ q
    simp only [RV_X5_readNumbers_5]
    (repeat' split) <;> first | omega | (refine ⟨(ih _ _ _).1, Int.le_trans (ih _ _ _).2 ?_⟩; omega)
theorem b_X5_readNumbers (σ : xMi) (a w : Nat) : -4 ≤ V_X5_readNumbers σ a w ∧ V_X5_readNumbers σ a w ≤ a + 3 * w := b_X5_RV a w w 0 σ a
def V_X5_readItem (σ : xMi) (a : Nat) (r : Nat) : Int := (if x_wr (V_X5_letterAt σ a) = x_wr 112 then (if x_wr (V_X5_letterAt σ a) = x_wr 112 then (if 0 ≤ x_wr (V_X5_readNumbers σ (a + 1) 4) then (if x_wr (V_X5_letterAt σ a) = x_wr 112 then (if x_wr (V_X3_addPerson (S_X5_readNumbers σ (a + 1) 4) r ((S_X5_readNumbers σ (a + 1) 4) 12 0 0) ((S_X5_readNumbers σ (a + 1) 4) 12 0 1) ((S_X5_readNumbers σ (a + 1) 4) 12 0 2) ((S_X5_readNumbers σ (a + 1) 4) 12 0 3) (σ 5 r 4).toNat) = 0 then (-4) else (V_X5_readNumbers σ (a + 1) 4)) else (if x_wr (V_X3_setStock (S_X5_readNumbers σ (a + 1) 4) r ((S_X5_readNumbers σ (a + 1) 4) 12 0 0)) = 0 then (-4) else (V_X5_readNumbers σ (a + 1) 4))) else (-4)) else (if 0 ≤ x_wr (V_X5_readNumbers σ (a + 1) 1) then (if x_wr (V_X5_letterAt σ a) = x_wr 112 then (if x_wr (V_X3_addPerson (S_X5_readNumbers σ (a + 1) 1) r ((S_X5_readNumbers σ (a + 1) 1) 12 0 0) ((S_X5_readNumbers σ (a + 1) 1) 12 0 1) ((S_X5_readNumbers σ (a + 1) 1) 12 0 2) ((S_X5_readNumbers σ (a + 1) 1) 12 0 3) (σ 5 r 4).toNat) = 0 then (-4) else (V_X5_readNumbers σ (a + 1) 1)) else (if x_wr (V_X3_setStock (S_X5_readNumbers σ (a + 1) 1) r ((S_X5_readNumbers σ (a + 1) 1) 12 0 0)) = 0 then (-4) else (V_X5_readNumbers σ (a + 1) 1))) else (-4))) else (if x_wr (V_X5_letterAt σ a) = x_wr 104 then (if x_wr (V_X5_letterAt σ a) = x_wr 112 then (if 0 ≤ x_wr (V_X5_readNumbers σ (a + 1) 4) then (if x_wr (V_X5_letterAt σ a) = x_wr 112 then (if x_wr (V_X3_addPerson (S_X5_readNumbers σ (a + 1) 4) r ((S_X5_readNumbers σ (a + 1) 4) 12 0 0) ((S_X5_readNumbers σ (a + 1) 4) 12 0 1) ((S_X5_readNumbers σ (a + 1) 4) 12 0 2) ((S_X5_readNumbers σ (a + 1) 4) 12 0 3) (σ 5 r 4).toNat) = 0 then (-4) else (V_X5_readNumbers σ (a + 1) 4)) else (if x_wr (V_X3_setStock (S_X5_readNumbers σ (a + 1) 4) r ((S_X5_readNumbers σ (a + 1) 4) 12 0 0)) = 0 then (-4) else (V_X5_readNumbers σ (a + 1) 4))) else (-4)) else (if 0 ≤ x_wr (V_X5_readNumbers σ (a + 1) 1) then (if x_wr (V_X5_letterAt σ a) = x_wr 112 then (if x_wr (V_X3_addPerson (S_X5_readNumbers σ (a + 1) 1) r ((S_X5_readNumbers σ (a + 1) 1) 12 0 0) ((S_X5_readNumbers σ (a + 1) 1) 12 0 1) ((S_X5_readNumbers σ (a + 1) 1) 12 0 2) ((S_X5_readNumbers σ (a + 1) 1) 12 0 3) (σ 5 r 4).toNat) = 0 then (-4) else (V_X5_readNumbers σ (a + 1) 1)) else (if x_wr (V_X3_setStock (S_X5_readNumbers σ (a + 1) 1) r ((S_X5_readNumbers σ (a + 1) 1) 12 0 0)) = 0 then (-4) else (V_X5_readNumbers σ (a + 1) 1))) else (-4))) else (-4)))
def S_X5_readItem (σ : xMi) (a : Nat) (r : Nat) : xMi := (if x_wr (V_X5_letterAt σ a) = x_wr 112 then (if x_wr (V_X5_letterAt σ a) = x_wr 112 then (if 0 ≤ x_wr (V_X5_readNumbers σ (a + 1) 4) then (if x_wr (V_X5_letterAt σ a) = x_wr 112 then (if x_wr (V_X3_addPerson (S_X5_readNumbers σ (a + 1) 4) r ((S_X5_readNumbers σ (a + 1) 4) 12 0 0) ((S_X5_readNumbers σ (a + 1) 4) 12 0 1) ((S_X5_readNumbers σ (a + 1) 4) 12 0 2) ((S_X5_readNumbers σ (a + 1) 4) 12 0 3) (σ 5 r 4).toNat) = 0 then (S_X3_addPerson (S_X5_readNumbers σ (a + 1) 4) r ((S_X5_readNumbers σ (a + 1) 4) 12 0 0) ((S_X5_readNumbers σ (a + 1) 4) 12 0 1) ((S_X5_readNumbers σ (a + 1) 4) 12 0 2) ((S_X5_readNumbers σ (a + 1) 4) 12 0 3) (σ 5 r 4).toNat) else (S_X3_addPerson (S_X5_readNumbers σ (a + 1) 4) r ((S_X5_readNumbers σ (a + 1) 4) 12 0 0) ((S_X5_readNumbers σ (a + 1) 4) 12 0 1) ((S_X5_readNumbers σ (a + 1) 4) 12 0 2) ((S_X5_readNumbers σ (a + 1) 4) 12 0 3) (σ 5 r 4).toNat)) else (if x_wr (V_X3_setStock (S_X5_readNumbers σ (a + 1) 4) r ((S_X5_readNumbers σ (a + 1) 4) 12 0 0)) = 0 then (S_X3_setStock (S_X5_readNumbers σ (a + 1) 4) r ((S_X5_readNumbers σ (a + 1) 4) 12 0 0)) else (S_X3_setStock (S_X5_readNumbers σ (a + 1) 4) r ((S_X5_readNumbers σ (a + 1) 4) 12 0 0)))) else (S_X5_readNumbers σ (a + 1) 4)) else (if 0 ≤ x_wr (V_X5_readNumbers σ (a + 1) 1) then (if x_wr (V_X5_letterAt σ a) = x_wr 112 then (if x_wr (V_X3_addPerson (S_X5_readNumbers σ (a + 1) 1) r ((S_X5_readNumbers σ (a + 1) 1) 12 0 0) ((S_X5_readNumbers σ (a + 1) 1) 12 0 1) ((S_X5_readNumbers σ (a + 1) 1) 12 0 2) ((S_X5_readNumbers σ (a + 1) 1) 12 0 3) (σ 5 r 4).toNat) = 0 then (S_X3_addPerson (S_X5_readNumbers σ (a + 1) 1) r ((S_X5_readNumbers σ (a + 1) 1) 12 0 0) ((S_X5_readNumbers σ (a + 1) 1) 12 0 1) ((S_X5_readNumbers σ (a + 1) 1) 12 0 2) ((S_X5_readNumbers σ (a + 1) 1) 12 0 3) (σ 5 r 4).toNat) else (S_X3_addPerson (S_X5_readNumbers σ (a + 1) 1) r ((S_X5_readNumbers σ (a + 1) 1) 12 0 0) ((S_X5_readNumbers σ (a + 1) 1) 12 0 1) ((S_X5_readNumbers σ (a + 1) 1) 12 0 2) ((S_X5_readNumbers σ (a + 1) 1) 12 0 3) (σ 5 r 4).toNat)) else (if x_wr (V_X3_setStock (S_X5_readNumbers σ (a + 1) 1) r ((S_X5_readNumbers σ (a + 1) 1) 12 0 0)) = 0 then (S_X3_setStock (S_X5_readNumbers σ (a + 1) 1) r ((S_X5_readNumbers σ (a + 1) 1) 12 0 0)) else (S_X3_setStock (S_X5_readNumbers σ (a + 1) 1) r ((S_X5_readNumbers σ (a + 1) 1) 12 0 0)))) else (S_X5_readNumbers σ (a + 1) 1))) else (if x_wr (V_X5_letterAt σ a) = x_wr 104 then (if x_wr (V_X5_letterAt σ a) = x_wr 112 then (if 0 ≤ x_wr (V_X5_readNumbers σ (a + 1) 4) then (if x_wr (V_X5_letterAt σ a) = x_wr 112 then (if x_wr (V_X3_addPerson (S_X5_readNumbers σ (a + 1) 4) r ((S_X5_readNumbers σ (a + 1) 4) 12 0 0) ((S_X5_readNumbers σ (a + 1) 4) 12 0 1) ((S_X5_readNumbers σ (a + 1) 4) 12 0 2) ((S_X5_readNumbers σ (a + 1) 4) 12 0 3) (σ 5 r 4).toNat) = 0 then (S_X3_addPerson (S_X5_readNumbers σ (a + 1) 4) r ((S_X5_readNumbers σ (a + 1) 4) 12 0 0) ((S_X5_readNumbers σ (a + 1) 4) 12 0 1) ((S_X5_readNumbers σ (a + 1) 4) 12 0 2) ((S_X5_readNumbers σ (a + 1) 4) 12 0 3) (σ 5 r 4).toNat) else (S_X3_addPerson (S_X5_readNumbers σ (a + 1) 4) r ((S_X5_readNumbers σ (a + 1) 4) 12 0 0) ((S_X5_readNumbers σ (a + 1) 4) 12 0 1) ((S_X5_readNumbers σ (a + 1) 4) 12 0 2) ((S_X5_readNumbers σ (a + 1) 4) 12 0 3) (σ 5 r 4).toNat)) else (if x_wr (V_X3_setStock (S_X5_readNumbers σ (a + 1) 4) r ((S_X5_readNumbers σ (a + 1) 4) 12 0 0)) = 0 then (S_X3_setStock (S_X5_readNumbers σ (a + 1) 4) r ((S_X5_readNumbers σ (a + 1) 4) 12 0 0)) else (S_X3_setStock (S_X5_readNumbers σ (a + 1) 4) r ((S_X5_readNumbers σ (a + 1) 4) 12 0 0)))) else (S_X5_readNumbers σ (a + 1) 4)) else (if 0 ≤ x_wr (V_X5_readNumbers σ (a + 1) 1) then (if x_wr (V_X5_letterAt σ a) = x_wr 112 then (if x_wr (V_X3_addPerson (S_X5_readNumbers σ (a + 1) 1) r ((S_X5_readNumbers σ (a + 1) 1) 12 0 0) ((S_X5_readNumbers σ (a + 1) 1) 12 0 1) ((S_X5_readNumbers σ (a + 1) 1) 12 0 2) ((S_X5_readNumbers σ (a + 1) 1) 12 0 3) (σ 5 r 4).toNat) = 0 then (S_X3_addPerson (S_X5_readNumbers σ (a + 1) 1) r ((S_X5_readNumbers σ (a + 1) 1) 12 0 0) ((S_X5_readNumbers σ (a + 1) 1) 12 0 1) ((S_X5_readNumbers σ (a + 1) 1) 12 0 2) ((S_X5_readNumbers σ (a + 1) 1) 12 0 3) (σ 5 r 4).toNat) else (S_X3_addPerson (S_X5_readNumbers σ (a + 1) 1) r ((S_X5_readNumbers σ (a + 1) 1) 12 0 0) ((S_X5_readNumbers σ (a + 1) 1) 12 0 1) ((S_X5_readNumbers σ (a + 1) 1) 12 0 2) ((S_X5_readNumbers σ (a + 1) 1) 12 0 3) (σ 5 r 4).toNat)) else (if x_wr (V_X3_setStock (S_X5_readNumbers σ (a + 1) 1) r ((S_X5_readNumbers σ (a + 1) 1) 12 0 0)) = 0 then (S_X3_setStock (S_X5_readNumbers σ (a + 1) 1) r ((S_X5_readNumbers σ (a + 1) 1) 12 0 0)) else (S_X3_setStock (S_X5_readNumbers σ (a + 1) 1) r ((S_X5_readNumbers σ (a + 1) 1) 12 0 0)))) else (S_X5_readNumbers σ (a + 1) 1))) else σ))
theorem fr_S_X5_readItem (σ : xMi) (a : Nat) (r : Nat) {t i k : Nat} (h : ¬ (t = 12 ∨ (5 ≤ t ∧ t ≤ 9 ∧ i = r))) : S_X5_readItem σ a r t i k = σ t i k := by
  unfold S_X5_readItem
  all_goals ((repeat' split) <;> first | rfl | simp (disch := first | omega | assumption) only [x_up_o, x_up_k, x_cp_o, fr_S_X3_addPerson, fr_S_X3_setStock, fr_S_X5_readNumbers])
theorem c_X5_readItem (l : Launch) (n : Nat) (σ : xMi) (a : Nat) (r : Nat) (hn : 131 ≤ n) (ha : a ≤ 1000000) (hr : r < 3) (ha5 : a ≤ 90000) (hch : ∀ k, 0 ≤ σ 11 0 k ∧ σ 11 0 k < 65536) (hz : 0 ≤ σ 5 r 4 ∧ σ 5 r 4 ≤ 6) : x_F l yX5_readItem RX5 cX5_readItem 6 (some .int) 3 n σ [xR 10 0, xI (a : Int), xR 5 r] (some (xI (V_X5_readItem σ a r))) (S_X5_readItem σ a r) := by
  refine f_of (by decide) rfl (Nat.le_of_ble_eq_true rfl) rfl ?_
  refine g_aload_n dX5_readItem_0 rfl ?_
  refine g_iload_n dX5_readItem_1 rfl ?_
  refine f_V dX5_readItem_2 cs_X5_32 mb_X5_letterAt (c_X5_letterAt l n _ a hn ha hch) rfl (x_vC hn (Nat.le_of_ble_eq_true rfl) (Nat.le_of_ble_eq_true rfl)) rfl rfl rfl (Nat.le_of_ble_eq_true rfl) (by decide) (Nat.le_of_ble_eq_true rfl) (Nat.le_refl _) (Nat.le_refl _) ?_
  refine g_istore_n (lv' := [_, _, _, _]) dX5_readItem_5 (Nat.le_of_ble_eq_true rfl) rfl ?_
  refine g_iload_n dX5_readItem_6 rfl ?_
  refine g_bipush dX5_readItem_7 (by decide) ?_
  refine g_cmp_eq 21 dX5_readItem_9 rfl (fun c_9 => ?_) (fun c_9 => ?_)
  · refine g_aload_n dX5_readItem_21 rfl ?_
    refine g_iload_n dX5_readItem_22 rfl ?_
    refine g_iconst dX5_readItem_23 ?_
    refine g_iadd dX5_readItem_24 ?_
    refine g_eqI ((a + 1 : Nat) : Int) rfl ?_
    refine g_iload_n dX5_readItem_25 rfl ?_
    refine g_bipush dX5_readItem_26 (by decide) ?_
    refine g_cmp_ne 35 dX5_readItem_28 rfl (fun c_28 => ?_) (fun c_28 => ?_)
    · refine g_iconst dX5_readItem_35 ?_
      refine f_V dX5_readItem_36 cs_X5_36 mb_X5_readNumbers (c_X5_readNumbers l n _ (a + 1) 1 hn (by omega) (Nat.le_of_ble_eq_true rfl) (by decide) (by omega) hch) rfl (x_vC hn (Nat.le_of_ble_eq_true rfl) (Nat.le_of_ble_eq_true rfl)) rfl rfl rfl (Nat.le_of_ble_eq_true rfl) (by decide) (Nat.le_of_ble_eq_true rfl) (Nat.le_refl _) (Nat.le_refl _) ?_
      refine g_istore (lv' := [_, _, _, _, _]) dX5_readItem_39 (Nat.le_of_ble_eq_true rfl) rfl ?_
      refine g_iload dX5_readItem_41 rfl ?_
      refine g_if_ge 49 dX5_readItem_43 rfl (fun c_43 => ?_) (fun c_43 => ?_)
      · refine g_iload_n dX5_readItem_49 rfl ?_
        refine g_bipush dX5_readItem_50 (by decide) ?_
        refine g_cmp_ne 86 dX5_readItem_52 rfl (fun c_52 => ?_) (fun c_52 => ?_)
        · refine g_aload_n dX5_readItem_86 rfl ?_
          refine g_aload_n dX5_readItem_87 rfl ?_
          refine g_getR (t2 := 12) (i2 := 0) dX5_readItem_88 fl_X5_15 (x_vC hn (Nat.le_of_ble_eq_true rfl) (Nat.le_of_ble_eq_true rfl)) rfl rfl rfl ?_
          refine g_iconst dX5_readItem_91 ?_
          refine g_iald 0 dX5_readItem_92 rfl (Nat.le_of_ble_eq_true rfl) (x_vC hn (Nat.le_of_ble_eq_true rfl) (Nat.le_of_ble_eq_true rfl)) rfl ?_
          refine f_V dX5_readItem_93 cs_X5_44 mb_X3_setStock (c_X3_setStock l n _ r ((S_X5_readNumbers σ (a + 1) 1) 12 0 0) hn hr) rfl (x_vC hn (Nat.le_of_ble_eq_true rfl) hr) rfl rfl rfl (Nat.le_of_ble_eq_true rfl) (by decide) (Nat.le_of_ble_eq_true rfl) (Nat.le_refl _) (Nat.le_refl _) ?_
          refine g_istore (lv' := [_, _, _, _, _, _]) dX5_readItem_96 (Nat.le_of_ble_eq_true rfl) rfl ?_
          refine g_iload dX5_readItem_98 rfl ?_
          refine g_if_eq 108 dX5_readItem_100 rfl (fun c_100 => ?_) (fun c_100 => ?_)
          · refine g_bipush dX5_readItem_108 (by decide) ?_
            exact f_iret dX5_readItem_110 (by rw [V_X5_readItem, if_pos c_9, if_neg c_28, if_pos c_43, if_neg c_52, if_pos c_100]) (by rw [S_X5_readItem, if_pos c_9, if_neg c_28, if_pos c_43, if_neg c_52, if_pos c_100])
          · refine g_iload dX5_readItem_103 rfl ?_
            refine g_goto 110 dX5_readItem_105 rfl ?_
            exact f_iret dX5_readItem_110 (by rw [V_X5_readItem, if_pos c_9, if_neg c_28, if_pos c_43, if_neg c_52, if_neg c_100]) (by rw [S_X5_readItem, if_pos c_9, if_neg c_28, if_pos c_43, if_neg c_52, if_neg c_100])
        · refine g_aload_n dX5_readItem_55 rfl ?_
          refine g_aload_n dX5_readItem_56 rfl ?_
          refine g_getR (t2 := 12) (i2 := 0) dX5_readItem_57 fl_X5_15 (x_vC hn (Nat.le_of_ble_eq_true rfl) (Nat.le_of_ble_eq_true rfl)) rfl rfl rfl ?_
          refine g_iconst dX5_readItem_60 ?_
          refine g_iald 0 dX5_readItem_61 rfl (Nat.le_of_ble_eq_true rfl) (x_vC hn (Nat.le_of_ble_eq_true rfl) (Nat.le_of_ble_eq_true rfl)) rfl ?_
          refine g_aload_n dX5_readItem_62 rfl ?_
          refine g_getR (t2 := 12) (i2 := 0) dX5_readItem_63 fl_X5_15 (x_vC hn (Nat.le_of_ble_eq_true rfl) (Nat.le_of_ble_eq_true rfl)) rfl rfl rfl ?_
          refine g_iconst dX5_readItem_66 ?_
          refine g_iald 1 dX5_readItem_67 rfl (Nat.le_of_ble_eq_true rfl) (x_vC hn (Nat.le_of_ble_eq_true rfl) (Nat.le_of_ble_eq_true rfl)) rfl ?_
          refine g_aload_n dX5_readItem_68 rfl ?_
          refine g_getR (t2 := 12) (i2 := 0) dX5_readItem_69 fl_X5_15 (x_vC hn (Nat.le_of_ble_eq_true rfl) (Nat.le_of_ble_eq_true rfl)) rfl rfl rfl ?_
          refine g_iconst dX5_readItem_72 ?_
          refine g_iald 2 dX5_readItem_73 rfl (Nat.le_of_ble_eq_true rfl) (x_vC hn (Nat.le_of_ble_eq_true rfl) (Nat.le_of_ble_eq_true rfl)) rfl ?_
          refine g_aload_n dX5_readItem_74 rfl ?_
          refine g_getR (t2 := 12) (i2 := 0) dX5_readItem_75 fl_X5_15 (x_vC hn (Nat.le_of_ble_eq_true rfl) (Nat.le_of_ble_eq_true rfl)) rfl rfl rfl ?_
          refine g_iconst dX5_readItem_78 ?_
          refine g_iald 3 dX5_readItem_79 rfl (Nat.le_of_ble_eq_true rfl) (x_vC hn (Nat.le_of_ble_eq_true rfl) (Nat.le_of_ble_eq_true rfl)) rfl ?_
          refine f_V dX5_readItem_80 cs_X5_40 mb_X3_addPerson (c_X3_addPerson l n _ r ((S_X5_readNumbers σ (a + 1) 1) 12 0 0) ((S_X5_readNumbers σ (a + 1) 1) 12 0 1) ((S_X5_readNumbers σ (a + 1) 1) 12 0 2) ((S_X5_readNumbers σ (a + 1) 1) 12 0 3) (σ 5 r 4).toNat hn hr (by omega) (by simp (disch := first | omega | assumption) only [x_up_o, fr_S_X5_readNumbers]; omega)) rfl (x_vC hn (Nat.le_of_ble_eq_true rfl) hr) rfl rfl rfl (Nat.le_of_ble_eq_true rfl) (by decide) (Nat.le_of_ble_eq_true rfl) (Nat.le_refl _) (Nat.le_refl _) ?_
          refine g_goto 96 dX5_readItem_83 rfl ?_
          refine g_istore (lv' := [_, _, _, _, _, _]) dX5_readItem_96 (Nat.le_of_ble_eq_true rfl) rfl ?_
          refine g_iload dX5_readItem_98 rfl ?_
          refine g_if_eq 108 dX5_readItem_100 rfl (fun c_100 => ?_) (fun c_100 => ?_)
          · refine g_bipush dX5_readItem_108 (by decide) ?_
            exact f_iret dX5_readItem_110 (by rw [V_X5_readItem, if_pos c_9, if_neg c_28, if_pos c_43, if_pos c_52, if_pos c_100]) (by rw [S_X5_readItem, if_pos c_9, if_neg c_28, if_pos c_43, if_pos c_52, if_pos c_100])
          · refine g_iload dX5_readItem_103 rfl ?_
            refine g_goto 110 dX5_readItem_105 rfl ?_
            exact f_iret dX5_readItem_110 (by rw [V_X5_readItem, if_pos c_9, if_neg c_28, if_pos c_43, if_pos c_52, if_neg c_100]) (by rw [S_X5_readItem, if_pos c_9, if_neg c_28, if_pos c_43, if_pos c_52, if_neg c_100])
      · refine g_bipush dX5_readItem_46 (by decide) ?_
        exact f_iret dX5_readItem_48 (by rw [V_X5_readItem, if_pos c_9, if_neg c_28, if_neg c_43]) (by rw [S_X5_readItem, if_pos c_9, if_neg c_28, if_neg c_43])
    · refine g_iconst dX5_readItem_31 ?_
      refine g_goto 36 dX5_readItem_32 rfl ?_
      refine f_V dX5_readItem_36 cs_X5_36 mb_X5_readNumbers (c_X5_readNumbers l n _ (a + 1) 4 hn (by omega) (Nat.le_of_ble_eq_true rfl) (by decide) (by omega) hch) rfl (x_vC hn (Nat.le_of_ble_eq_true rfl) (Nat.le_of_ble_eq_true rfl)) rfl rfl rfl (Nat.le_of_ble_eq_true rfl) (by decide) (Nat.le_of_ble_eq_true rfl) (Nat.le_refl _) (Nat.le_refl _) ?_
      refine g_istore (lv' := [_, _, _, _, _]) dX5_readItem_39 (Nat.le_of_ble_eq_true rfl) rfl ?_
      refine g_iload dX5_readItem_41 rfl ?_
      refine g_if_ge 49 dX5_readItem_43 rfl (fun c_43 => ?_) (fun c_43 => ?_)
      · refine g_iload_n dX5_readItem_49 rfl ?_
        refine g_bipush dX5_readItem_50 (by decide) ?_
        refine g_cmp_ne 86 dX5_readItem_52 rfl (fun c_52 => ?_) (fun c_52 => ?_)
        · refine g_aload_n dX5_readItem_86 rfl ?_
          refine g_aload_n dX5_readItem_87 rfl ?_
          refine g_getR (t2 := 12) (i2 := 0) dX5_readItem_88 fl_X5_15 (x_vC hn (Nat.le_of_ble_eq_true rfl) (Nat.le_of_ble_eq_true rfl)) rfl rfl rfl ?_
          refine g_iconst dX5_readItem_91 ?_
          refine g_iald 0 dX5_readItem_92 rfl (Nat.le_of_ble_eq_true rfl) (x_vC hn (Nat.le_of_ble_eq_true rfl) (Nat.le_of_ble_eq_true rfl)) rfl ?_
          refine f_V dX5_readItem_93 cs_X5_44 mb_X3_setStock (c_X3_setStock l n _ r ((S_X5_readNumbers σ (a + 1) 4) 12 0 0) hn hr) rfl (x_vC hn (Nat.le_of_ble_eq_true rfl) hr) rfl rfl rfl (Nat.le_of_ble_eq_true rfl) (by decide) (Nat.le_of_ble_eq_true rfl) (Nat.le_refl _) (Nat.le_refl _) ?_
          refine g_istore (lv' := [_, _, _, _, _, _]) dX5_readItem_96 (Nat.le_of_ble_eq_true rfl) rfl ?_
          refine g_iload dX5_readItem_98 rfl ?_
          refine g_if_eq 108 dX5_readItem_100 rfl (fun c_100 => ?_) (fun c_100 => ?_)
          · refine g_bipush dX5_readItem_108 (by decide) ?_
            exact f_iret dX5_readItem_110 (by rw [V_X5_readItem, if_pos c_9, if_pos c_28, if_pos c_43, if_neg c_52, if_pos c_100]) (by rw [S_X5_readItem, if_pos c_9, if_pos c_28, if_pos c_43, if_neg c_52, if_pos c_100])
          · refine g_iload dX5_readItem_103 rfl ?_
            refine g_goto 110 dX5_readItem_105 rfl ?_
            exact f_iret dX5_readItem_110 (by rw [V_X5_readItem, if_pos c_9, if_pos c_28, if_pos c_43, if_neg c_52, if_neg c_100]) (by rw [S_X5_readItem, if_pos c_9, if_pos c_28, if_pos c_43, if_neg c_52, if_neg c_100])
        · refine g_aload_n dX5_readItem_55 rfl ?_
          refine g_aload_n dX5_readItem_56 rfl ?_
          refine g_getR (t2 := 12) (i2 := 0) dX5_readItem_57 fl_X5_15 (x_vC hn (Nat.le_of_ble_eq_true rfl) (Nat.le_of_ble_eq_true rfl)) rfl rfl rfl ?_
          refine g_iconst dX5_readItem_60 ?_
          refine g_iald 0 dX5_readItem_61 rfl (Nat.le_of_ble_eq_true rfl) (x_vC hn (Nat.le_of_ble_eq_true rfl) (Nat.le_of_ble_eq_true rfl)) rfl ?_
          refine g_aload_n dX5_readItem_62 rfl ?_
          refine g_getR (t2 := 12) (i2 := 0) dX5_readItem_63 fl_X5_15 (x_vC hn (Nat.le_of_ble_eq_true rfl) (Nat.le_of_ble_eq_true rfl)) rfl rfl rfl ?_
          refine g_iconst dX5_readItem_66 ?_
          refine g_iald 1 dX5_readItem_67 rfl (Nat.le_of_ble_eq_true rfl) (x_vC hn (Nat.le_of_ble_eq_true rfl) (Nat.le_of_ble_eq_true rfl)) rfl ?_
          refine g_aload_n dX5_readItem_68 rfl ?_
          refine g_getR (t2 := 12) (i2 := 0) dX5_readItem_69 fl_X5_15 (x_vC hn (Nat.le_of_ble_eq_true rfl) (Nat.le_of_ble_eq_true rfl)) rfl rfl rfl ?_
          refine g_iconst dX5_readItem_72 ?_
          refine g_iald 2 dX5_readItem_73 rfl (Nat.le_of_ble_eq_true rfl) (x_vC hn (Nat.le_of_ble_eq_true rfl) (Nat.le_of_ble_eq_true rfl)) rfl ?_
          refine g_aload_n dX5_readItem_74 rfl ?_
          refine g_getR (t2 := 12) (i2 := 0) dX5_readItem_75 fl_X5_15 (x_vC hn (Nat.le_of_ble_eq_true rfl) (Nat.le_of_ble_eq_true rfl)) rfl rfl rfl ?_
          refine g_iconst dX5_readItem_78 ?_
          refine g_iald 3 dX5_readItem_79 rfl (Nat.le_of_ble_eq_true rfl) (x_vC hn (Nat.le_of_ble_eq_true rfl) (Nat.le_of_ble_eq_true rfl)) rfl ?_
          refine f_V dX5_readItem_80 cs_X5_40 mb_X3_addPerson (c_X3_addPerson l n _ r ((S_X5_readNumbers σ (a + 1) 4) 12 0 0) ((S_X5_readNumbers σ (a + 1) 4) 12 0 1) ((S_X5_readNumbers σ (a + 1) 4) 12 0 2) ((S_X5_readNumbers σ (a + 1) 4) 12 0 3) (σ 5 r 4).toNat hn hr (by omega) (by simp (disch := first | omega | assumption) only [x_up_o, fr_S_X5_readNumbers]; omega)) rfl (x_vC hn (Nat.le_of_ble_eq_true rfl) hr) rfl rfl rfl (Nat.le_of_ble_eq_true rfl) (by decide) (Nat.le_of_ble_eq_true rfl) (Nat.le_refl _) (Nat.le_refl _) ?_
          refine g_goto 96 dX5_readItem_83 rfl ?_
          refine g_istore (lv' := [_, _, _, _, _, _]) dX5_readItem_96 (Nat.le_of_ble_eq_true rfl) rfl ?_
          refine g_iload dX5_readItem_98 rfl ?_
          refine g_if_eq 108 dX5_readItem_100 rfl (fun c_100 => ?_) (fun c_100 => ?_)
          · refine g_bipush dX5_readItem_108 (by decide) ?_
            exact f_iret dX5_readItem_110 (by rw [V_X5_readItem, if_pos c_9, if_pos c_28, if_pos c_43, if_pos c_52, if_pos c_100]) (by rw [S_X5_readItem, if_pos c_9, if_pos c_28, if_pos c_43, if_pos c_52, if_pos c_100])
          · refine g_iload dX5_readItem_103 rfl ?_
            refine g_goto 110 dX5_readItem_105 rfl ?_
            exact f_iret dX5_readItem_110 (by rw [V_X5_readItem, if_pos c_9, if_pos c_28, if_pos c_43, if_pos c_52, if_neg c_100]) (by rw [S_X5_readItem, if_pos c_9, if_pos c_28, if_pos c_43, if_pos c_52, if_neg c_100])
      · refine g_bipush dX5_readItem_46 (by decide) ?_
        exact f_iret dX5_readItem_48 (by rw [V_X5_readItem, if_pos c_9, if_pos c_28, if_neg c_43]) (by rw [S_X5_readItem, if_pos c_9, if_pos c_28, if_neg c_43])
  · refine g_iload_n dX5_readItem_12 rfl ?_
    refine g_bipush dX5_readItem_13 (by decide) ?_
    refine g_cmp_eq 21 dX5_readItem_15 rfl (fun c_15 => ?_) (fun c_15 => ?_)
    · refine g_aload_n dX5_readItem_21 rfl ?_
      refine g_iload_n dX5_readItem_22 rfl ?_
      refine g_iconst dX5_readItem_23 ?_
      refine g_iadd dX5_readItem_24 ?_
      refine g_eqI ((a + 1 : Nat) : Int) rfl ?_
      refine g_iload_n dX5_readItem_25 rfl ?_
      refine g_bipush dX5_readItem_26 (by decide) ?_
      refine g_cmp_ne 35 dX5_readItem_28 rfl (fun c_28 => ?_) (fun c_28 => ?_)
      · refine g_iconst dX5_readItem_35 ?_
        refine f_V dX5_readItem_36 cs_X5_36 mb_X5_readNumbers (c_X5_readNumbers l n _ (a + 1) 1 hn (by omega) (Nat.le_of_ble_eq_true rfl) (by decide) (by omega) hch) rfl (x_vC hn (Nat.le_of_ble_eq_true rfl) (Nat.le_of_ble_eq_true rfl)) rfl rfl rfl (Nat.le_of_ble_eq_true rfl) (by decide) (Nat.le_of_ble_eq_true rfl) (Nat.le_refl _) (Nat.le_refl _) ?_
        refine g_istore (lv' := [_, _, _, _, _]) dX5_readItem_39 (Nat.le_of_ble_eq_true rfl) rfl ?_
        refine g_iload dX5_readItem_41 rfl ?_
        refine g_if_ge 49 dX5_readItem_43 rfl (fun c_43 => ?_) (fun c_43 => ?_)
        · refine g_iload_n dX5_readItem_49 rfl ?_
          refine g_bipush dX5_readItem_50 (by decide) ?_
          refine g_cmp_ne 86 dX5_readItem_52 rfl (fun c_52 => ?_) (fun c_52 => ?_)
          · refine g_aload_n dX5_readItem_86 rfl ?_
            refine g_aload_n dX5_readItem_87 rfl ?_
            refine g_getR (t2 := 12) (i2 := 0) dX5_readItem_88 fl_X5_15 (x_vC hn (Nat.le_of_ble_eq_true rfl) (Nat.le_of_ble_eq_true rfl)) rfl rfl rfl ?_
            refine g_iconst dX5_readItem_91 ?_
            refine g_iald 0 dX5_readItem_92 rfl (Nat.le_of_ble_eq_true rfl) (x_vC hn (Nat.le_of_ble_eq_true rfl) (Nat.le_of_ble_eq_true rfl)) rfl ?_
            refine f_V dX5_readItem_93 cs_X5_44 mb_X3_setStock (c_X3_setStock l n _ r ((S_X5_readNumbers σ (a + 1) 1) 12 0 0) hn hr) rfl (x_vC hn (Nat.le_of_ble_eq_true rfl) hr) rfl rfl rfl (Nat.le_of_ble_eq_true rfl) (by decide) (Nat.le_of_ble_eq_true rfl) (Nat.le_refl _) (Nat.le_refl _) ?_
            refine g_istore (lv' := [_, _, _, _, _, _]) dX5_readItem_96 (Nat.le_of_ble_eq_true rfl) rfl ?_
            refine g_iload dX5_readItem_98 rfl ?_
            refine g_if_eq 108 dX5_readItem_100 rfl (fun c_100 => ?_) (fun c_100 => ?_)
            · refine g_bipush dX5_readItem_108 (by decide) ?_
              exact f_iret dX5_readItem_110 (by rw [V_X5_readItem, if_neg c_9, if_pos c_15, if_neg c_28, if_pos c_43, if_neg c_52, if_pos c_100]) (by rw [S_X5_readItem, if_neg c_9, if_pos c_15, if_neg c_28, if_pos c_43, if_neg c_52, if_pos c_100])
            · refine g_iload dX5_readItem_103 rfl ?_
              refine g_goto 110 dX5_readItem_105 rfl ?_
              exact f_iret dX5_readItem_110 (by rw [V_X5_readItem, if_neg c_9, if_pos c_15, if_neg c_28, if_pos c_43, if_neg c_52, if_neg c_100]) (by rw [S_X5_readItem, if_neg c_9, if_pos c_15, if_neg c_28, if_pos c_43, if_neg c_52, if_neg c_100])
          · refine g_aload_n dX5_readItem_55 rfl ?_
            refine g_aload_n dX5_readItem_56 rfl ?_
            refine g_getR (t2 := 12) (i2 := 0) dX5_readItem_57 fl_X5_15 (x_vC hn (Nat.le_of_ble_eq_true rfl) (Nat.le_of_ble_eq_true rfl)) rfl rfl rfl ?_
            refine g_iconst dX5_readItem_60 ?_
            refine g_iald 0 dX5_readItem_61 rfl (Nat.le_of_ble_eq_true rfl) (x_vC hn (Nat.le_of_ble_eq_true rfl) (Nat.le_of_ble_eq_true rfl)) rfl ?_
            refine g_aload_n dX5_readItem_62 rfl ?_
            refine g_getR (t2 := 12) (i2 := 0) dX5_readItem_63 fl_X5_15 (x_vC hn (Nat.le_of_ble_eq_true rfl) (Nat.le_of_ble_eq_true rfl)) rfl rfl rfl ?_
            refine g_iconst dX5_readItem_66 ?_
            refine g_iald 1 dX5_readItem_67 rfl (Nat.le_of_ble_eq_true rfl) (x_vC hn (Nat.le_of_ble_eq_true rfl) (Nat.le_of_ble_eq_true rfl)) rfl ?_
            refine g_aload_n dX5_readItem_68 rfl ?_
            refine g_getR (t2 := 12) (i2 := 0) dX5_readItem_69 fl_X5_15 (x_vC hn (Nat.le_of_ble_eq_true rfl) (Nat.le_of_ble_eq_true rfl)) rfl rfl rfl ?_
            refine g_iconst dX5_readItem_72 ?_
            refine g_iald 2 dX5_readItem_73 rfl (Nat.le_of_ble_eq_true rfl) (x_vC hn (Nat.le_of_ble_eq_true rfl) (Nat.le_of_ble_eq_true rfl)) rfl ?_
            refine g_aload_n dX5_readItem_74 rfl ?_
            refine g_getR (t2 := 12) (i2 := 0) dX5_readItem_75 fl_X5_15 (x_vC hn (Nat.le_of_ble_eq_true rfl) (Nat.le_of_ble_eq_true rfl)) rfl rfl rfl ?_
            refine g_iconst dX5_readItem_78 ?_
            refine g_iald 3 dX5_readItem_79 rfl (Nat.le_of_ble_eq_true rfl) (x_vC hn (Nat.le_of_ble_eq_true rfl) (Nat.le_of_ble_eq_true rfl)) rfl ?_
            refine f_V dX5_readItem_80 cs_X5_40 mb_X3_addPerson (c_X3_addPerson l n _ r ((S_X5_readNumbers σ (a + 1) 1) 12 0 0) ((S_X5_readNumbers σ (a + 1) 1) 12 0 1) ((S_X5_readNumbers σ (a + 1) 1) 12 0 2) ((S_X5_readNumbers σ (a + 1) 1) 12 0 3) (σ 5 r 4).toNat hn hr (by omega) (by simp (disch := first | omega | assumption) only [x_up_o, fr_S_X5_readNumbers]; omega)) rfl (x_vC hn (Nat.le_of_ble_eq_true rfl) hr) rfl rfl rfl (Nat.le_of_ble_eq_true rfl) (by decide) (Nat.le_of_ble_eq_true rfl) (Nat.le_refl _) (Nat.le_refl _) ?_
            refine g_goto 96 dX5_readItem_83 rfl ?_
            refine g_istore (lv' := [_, _, _, _, _, _]) dX5_readItem_96 (Nat.le_of_ble_eq_true rfl) rfl ?_
            refine g_iload dX5_readItem_98 rfl ?_
            refine g_if_eq 108 dX5_readItem_100 rfl (fun c_100 => ?_) (fun c_100 => ?_)
            · refine g_bipush dX5_readItem_108 (by decide) ?_
              exact f_iret dX5_readItem_110 (by rw [V_X5_readItem, if_neg c_9, if_pos c_15, if_neg c_28, if_pos c_43, if_pos c_52, if_pos c_100]) (by rw [S_X5_readItem, if_neg c_9, if_pos c_15, if_neg c_28, if_pos c_43, if_pos c_52, if_pos c_100])
            · refine g_iload dX5_readItem_103 rfl ?_
              refine g_goto 110 dX5_readItem_105 rfl ?_
              exact f_iret dX5_readItem_110 (by rw [V_X5_readItem, if_neg c_9, if_pos c_15, if_neg c_28, if_pos c_43, if_pos c_52, if_neg c_100]) (by rw [S_X5_readItem, if_neg c_9, if_pos c_15, if_neg c_28, if_pos c_43, if_pos c_52, if_neg c_100])
        · refine g_bipush dX5_readItem_46 (by decide) ?_
          exact f_iret dX5_readItem_48 (by rw [V_X5_readItem, if_neg c_9, if_pos c_15, if_neg c_28, if_neg c_43]) (by rw [S_X5_readItem, if_neg c_9, if_pos c_15, if_neg c_28, if_neg c_43])
      · refine g_iconst dX5_readItem_31 ?_
        refine g_goto 36 dX5_readItem_32 rfl ?_
        refine f_V dX5_readItem_36 cs_X5_36 mb_X5_readNumbers (c_X5_readNumbers l n _ (a + 1) 4 hn (by omega) (Nat.le_of_ble_eq_true rfl) (by decide) (by omega) hch) rfl (x_vC hn (Nat.le_of_ble_eq_true rfl) (Nat.le_of_ble_eq_true rfl)) rfl rfl rfl (Nat.le_of_ble_eq_true rfl) (by decide) (Nat.le_of_ble_eq_true rfl) (Nat.le_refl _) (Nat.le_refl _) ?_
        refine g_istore (lv' := [_, _, _, _, _]) dX5_readItem_39 (Nat.le_of_ble_eq_true rfl) rfl ?_
        refine g_iload dX5_readItem_41 rfl ?_
        refine g_if_ge 49 dX5_readItem_43 rfl (fun c_43 => ?_) (fun c_43 => ?_)
        · refine g_iload_n dX5_readItem_49 rfl ?_
          refine g_bipush dX5_readItem_50 (by decide) ?_
          refine g_cmp_ne 86 dX5_readItem_52 rfl (fun c_52 => ?_) (fun c_52 => ?_)
          · refine g_aload_n dX5_readItem_86 rfl ?_
            refine g_aload_n dX5_readItem_87 rfl ?_
            refine g_getR (t2 := 12) (i2 := 0) dX5_readItem_88 fl_X5_15 (x_vC hn (Nat.le_of_ble_eq_true rfl) (Nat.le_of_ble_eq_true rfl)) rfl rfl rfl ?_
            refine g_iconst dX5_readItem_91 ?_
            refine g_iald 0 dX5_readItem_92 rfl (Nat.le_of_ble_eq_true rfl) (x_vC hn (Nat.le_of_ble_eq_true rfl) (Nat.le_of_ble_eq_true rfl)) rfl ?_
            refine f_V dX5_readItem_93 cs_X5_44 mb_X3_setStock (c_X3_setStock l n _ r ((S_X5_readNumbers σ (a + 1) 4) 12 0 0) hn hr) rfl (x_vC hn (Nat.le_of_ble_eq_true rfl) hr) rfl rfl rfl (Nat.le_of_ble_eq_true rfl) (by decide) (Nat.le_of_ble_eq_true rfl) (Nat.le_refl _) (Nat.le_refl _) ?_
            refine g_istore (lv' := [_, _, _, _, _, _]) dX5_readItem_96 (Nat.le_of_ble_eq_true rfl) rfl ?_
            refine g_iload dX5_readItem_98 rfl ?_
            refine g_if_eq 108 dX5_readItem_100 rfl (fun c_100 => ?_) (fun c_100 => ?_)
            · refine g_bipush dX5_readItem_108 (by decide) ?_
              exact f_iret dX5_readItem_110 (by rw [V_X5_readItem, if_neg c_9, if_pos c_15, if_pos c_28, if_pos c_43, if_neg c_52, if_pos c_100]) (by rw [S_X5_readItem, if_neg c_9, if_pos c_15, if_pos c_28, if_pos c_43, if_neg c_52, if_pos c_100])
            · refine g_iload dX5_readItem_103 rfl ?_
              refine g_goto 110 dX5_readItem_105 rfl ?_
              exact f_iret dX5_readItem_110 (by rw [V_X5_readItem, if_neg c_9, if_pos c_15, if_pos c_28, if_pos c_43, if_neg c_52, if_neg c_100]) (by rw [S_X5_readItem, if_neg c_9, if_pos c_15, if_pos c_28, if_pos c_43, if_neg c_52, if_neg c_100])
          · refine g_aload_n dX5_readItem_55 rfl ?_
            refine g_aload_n dX5_readItem_56 rfl ?_
            refine g_getR (t2 := 12) (i2 := 0) dX5_readItem_57 fl_X5_15 (x_vC hn (Nat.le_of_ble_eq_true rfl) (Nat.le_of_ble_eq_true rfl)) rfl rfl rfl ?_
            refine g_iconst dX5_readItem_60 ?_
            refine g_iald 0 dX5_readItem_61 rfl (Nat.le_of_ble_eq_true rfl) (x_vC hn (Nat.le_of_ble_eq_true rfl) (Nat.le_of_ble_eq_true rfl)) rfl ?_
            refine g_aload_n dX5_readItem_62 rfl ?_
            refine g_getR (t2 := 12) (i2 := 0) dX5_readItem_63 fl_X5_15 (x_vC hn (Nat.le_of_ble_eq_true rfl) (Nat.le_of_ble_eq_true rfl)) rfl rfl rfl ?_
            refine g_iconst dX5_readItem_66 ?_
            refine g_iald 1 dX5_readItem_67 rfl (Nat.le_of_ble_eq_true rfl) (x_vC hn (Nat.le_of_ble_eq_true rfl) (Nat.le_of_ble_eq_true rfl)) rfl ?_
            refine g_aload_n dX5_readItem_68 rfl ?_
            refine g_getR (t2 := 12) (i2 := 0) dX5_readItem_69 fl_X5_15 (x_vC hn (Nat.le_of_ble_eq_true rfl) (Nat.le_of_ble_eq_true rfl)) rfl rfl rfl ?_
            refine g_iconst dX5_readItem_72 ?_
            refine g_iald 2 dX5_readItem_73 rfl (Nat.le_of_ble_eq_true rfl) (x_vC hn (Nat.le_of_ble_eq_true rfl) (Nat.le_of_ble_eq_true rfl)) rfl ?_
            refine g_aload_n dX5_readItem_74 rfl ?_
            refine g_getR (t2 := 12) (i2 := 0) dX5_readItem_75 fl_X5_15 (x_vC hn (Nat.le_of_ble_eq_true rfl) (Nat.le_of_ble_eq_true rfl)) rfl rfl rfl ?_
            refine g_iconst dX5_readItem_78 ?_
            refine g_iald 3 dX5_readItem_79 rfl (Nat.le_of_ble_eq_true rfl) (x_vC hn (Nat.le_of_ble_eq_true rfl) (Nat.le_of_ble_eq_true rfl)) rfl ?_
            refine f_V dX5_readItem_80 cs_X5_40 mb_X3_addPerson (c_X3_addPerson l n _ r ((S_X5_readNumbers σ (a + 1) 4) 12 0 0) ((S_X5_readNumbers σ (a + 1) 4) 12 0 1) ((S_X5_readNumbers σ (a + 1) 4) 12 0 2) ((S_X5_readNumbers σ (a + 1) 4) 12 0 3) (σ 5 r 4).toNat hn hr (by omega) (by simp (disch := first | omega | assumption) only [x_up_o, fr_S_X5_readNumbers]; omega)) rfl (x_vC hn (Nat.le_of_ble_eq_true rfl) hr) rfl rfl rfl (Nat.le_of_ble_eq_true rfl) (by decide) (Nat.le_of_ble_eq_true rfl) (Nat.le_refl _) (Nat.le_refl _) ?_
            refine g_goto 96 dX5_readItem_83 rfl ?_
            refine g_istore (lv' := [_, _, _, _, _, _]) dX5_readItem_96 (Nat.le_of_ble_eq_true rfl) rfl ?_
            refine g_iload dX5_readItem_98 rfl ?_
            refine g_if_eq 108 dX5_readItem_100 rfl (fun c_100 => ?_) (fun c_100 => ?_)
            · refine g_bipush dX5_readItem_108 (by decide) ?_
              exact f_iret dX5_readItem_110 (by rw [V_X5_readItem, if_neg c_9, if_pos c_15, if_pos c_28, if_pos c_43, if_pos c_52, if_pos c_100]) (by rw [S_X5_readItem, if_neg c_9, if_pos c_15, if_pos c_28, if_pos c_43, if_pos c_52, if_pos c_100])
            · refine g_iload dX5_readItem_103 rfl ?_
              refine g_goto 110 dX5_readItem_105 rfl ?_
              exact f_iret dX5_readItem_110 (by rw [V_X5_readItem, if_neg c_9, if_pos c_15, if_pos c_28, if_pos c_43, if_pos c_52, if_neg c_100]) (by rw [S_X5_readItem, if_neg c_9, if_pos c_15, if_pos c_28, if_pos c_43, if_pos c_52, if_neg c_100])
        · refine g_bipush dX5_readItem_46 (by decide) ?_
          exact f_iret dX5_readItem_48 (by rw [V_X5_readItem, if_neg c_9, if_pos c_15, if_pos c_28, if_neg c_43]) (by rw [S_X5_readItem, if_neg c_9, if_pos c_15, if_pos c_28, if_neg c_43])
    · refine g_bipush dX5_readItem_18 (by decide) ?_
      exact f_iret dX5_readItem_20 (by rw [V_X5_readItem, if_neg c_9, if_neg c_15]) (by rw [S_X5_readItem, if_neg c_9, if_neg c_15])

theorem b_X5_readItem (σ : xMi) (a r : Nat) : -4 ≤ V_X5_readItem σ a r ∧ V_X5_readItem σ a r ≤ a + 13 := by
  have h1 := b_X5_readNumbers σ (a + 1) 4
  have h2 := b_X5_readNumbers σ (a + 1) 1
  unfold V_X5_readItem
  (repeat' split) <;> omega
theorem i_X3_addPerson (σ : xMi) (r z : Nat) (k1 x1 n1 b1 : Int) (hz : σ 5 r 4 = (z : Int)) (h6 : z ≤ 6) : 0 ≤ S_X3_addPerson σ r k1 x1 n1 b1 z 5 r 4 ∧ S_X3_addPerson σ r k1 x1 n1 b1 z 5 r 4 ≤ 6 := by
  unfold S_X3_addPerson
  split
  · omega
  · rename_i h
    rw [hz, x_nat (by omega), show x_wr 6 = 6 from by decide] at h
    (repeat' split) <;> first | omega | (simp (disch := omega) only [x_up_s, x_up_o]; simp; omega)
theorem i_X5_readItem (σ : xMi) (a r : Nat) (hz : 0 ≤ σ 5 r 4 ∧ σ 5 r 4 ≤ 6) : 0 ≤ S_X5_readItem σ a r 5 r 4 ∧ S_X5_readItem σ a r 5 r 4 ≤ 6 := by
  have h1 : S_X5_readNumbers σ (a + 1) 4 5 r 4 = σ 5 r 4 := fr_S_X5_readNumbers _ _ _ (by omega)
  have h2 : S_X5_readNumbers σ (a + 1) 1 5 r 4 = σ 5 r 4 := fr_S_X5_readNumbers _ _ _ (by omega)
  have p1 : 0 ≤ S_X5_readNumbers σ (a + 1) 4 5 r 4 ∧ S_X5_readNumbers σ (a + 1) 4 5 r 4 ≤ 6 := by rw [h1]; exact hz
  have p2 : 0 ≤ S_X5_readNumbers σ (a + 1) 1 5 r 4 ∧ S_X5_readNumbers σ (a + 1) 1 5 r 4 ≤ 6 := by rw [h2]; exact hz
  have hA : ∀ k1 x1 n1 b1, 0 ≤ S_X3_addPerson (S_X5_readNumbers σ (a + 1) 4) r k1 x1 n1 b1 (σ 5 r 4).toNat 5 r 4 ∧ S_X3_addPerson (S_X5_readNumbers σ (a + 1) 4) r k1 x1 n1 b1 (σ 5 r 4).toNat 5 r 4 ≤ 6 := fun _ _ _ _ => i_X3_addPerson _ _ _ _ _ _ _ (by rw [h1]; omega) (by omega)
  have hB : ∀ k1 x1 n1 b1, 0 ≤ S_X3_addPerson (S_X5_readNumbers σ (a + 1) 1) r k1 x1 n1 b1 (σ 5 r 4).toNat 5 r 4 ∧ S_X3_addPerson (S_X5_readNumbers σ (a + 1) 1) r k1 x1 n1 b1 (σ 5 r 4).toNat 5 r 4 ≤ 6 := fun _ _ _ _ => i_X3_addPerson _ _ _ _ _ _ _ (by rw [h2]; omega) (by omega)
  have hS : ∀ (τ : xMi) h1, (0 ≤ τ 5 r 4 ∧ τ 5 r 4 ≤ 6) → 0 ≤ S_X3_setStock τ r h1 5 r 4 ∧ S_X3_setStock τ r h1 5 r 4 ≤ 6 := by
    intro τ h1 h
    unfold S_X3_setStock
    split
    · rw [x_up_s]; simpa using h
    · exact h
  generalize hP : (fun τ : xMi => 0 ≤ τ 5 r 4 ∧ τ 5 r 4 ≤ 6) = Pr
  have q0 : Pr σ := by rw [← hP]; exact hz
  have q1 : Pr (S_X5_readNumbers σ (a + 1) 4) := by rw [← hP]; exact p1
  have q2 : Pr (S_X5_readNumbers σ (a + 1) 1) := by rw [← hP]; exact p2
  have qA : ∀ k1 x1 n1 b1, Pr (S_X3_addPerson (S_X5_readNumbers σ (a + 1) 4) r k1 x1 n1 b1 (σ 5 r 4).toNat) := by rw [← hP]; exact hA
  have qB : ∀ k1 x1 n1 b1, Pr (S_X3_addPerson (S_X5_readNumbers σ (a + 1) 1) r k1 x1 n1 b1 (σ 5 r 4).toNat) := by rw [← hP]; exact hB
  have qS1 : ∀ h1, Pr (S_X3_setStock (S_X5_readNumbers σ (a + 1) 4) r h1) := by rw [← hP]; exact fun h1 => hS _ h1 p1
  have qS2 : ∀ h1, Pr (S_X3_setStock (S_X5_readNumbers σ (a + 1) 1) r h1) := by rw [← hP]; exact fun h1 => hS _ h1 p2
  suffices hh : Pr (S_X5_readItem σ a r) by rw [← hP] at hh; exact hh
  clear hP hA hB hS p1 p2
  unfold S_X5_readItem
  (repeat' split) <;> first | with_reducible exact q0 | with_reducible exact q1 | with_reducible exact q2 | with_reducible exact qA _ _ _ _ | with_reducible exact qB _ _ _ _ | with_reducible exact qS1 _ | with_reducible exact qS2 _
def RV_X5_readInto_8 (r : Nat) : Nat → Nat → xMi → Nat → Int
  | 0, e, σ, q => (-4)
  | k + 1, e, σ, q => (if x_wr (σ 10 0 2) ≤ x_wr (q : Int) then (-4) else (if 0 ≤ x_wr (V_X5_readItem σ q r) then (RV_X5_readInto_8 r k (e + 1) (S_X5_readItem σ q r) (V_X5_readItem σ q r).toNat) else (q : Int)))
def RS_X5_readInto_8 (r : Nat) : Nat → Nat → xMi → Nat → xMi
  | 0, e, σ, q => σ
  | k + 1, e, σ, q => (if x_wr (σ 10 0 2) ≤ x_wr (q : Int) then σ else (if 0 ≤ x_wr (V_X5_readItem σ q r) then (RS_X5_readInto_8 r k (e + 1) (S_X5_readItem σ q r) (V_X5_readItem σ q r).toNat) else (S_X5_readItem σ q r)))
theorem fr_RS_X5_readInto_8 (r : Nat) {t i k' : Nat} (h : ¬ (t = 12 ∨ (5 ≤ t ∧ t ≤ 9 ∧ i = r))) : ∀ (k e : Nat) (σ : xMi) (q : Nat), RS_X5_readInto_8 r k e σ q t i k' = σ t i k' := by
  intro k
  induction k with
  | zero =>
    intro e σ q
    simp only [RS_X5_readInto_8]
    all_goals ((repeat' split) <;> simp (disch := first | omega | assumption) only [x_up_o, x_up_k, x_cp_o])
  | succ k ih =>
    intro e σ q
    simp only [RS_X5_readInto_8]
    all_goals (repeat' split)
    all_goals (first | rw [ih] | skip)
    all_goals first | done | simp (disch := first | omega | assumption) only [x_up_o, x_up_k, x_cp_o, fr_S_X5_readItem]
theorem lh_X5_readInto_8 (l : Launch) (n : Nat) (r : Nat) (hn : 131 ≤ n) (hr : r < 3) : ∀ (k e : Nat) (σ : xMi) (q : Nat), e + k = 200 ∧ q ≤ 20 * e ∧ 0 ≤ σ 5 r 4 ∧ σ 5 r 4 ≤ 6 → (∀ k, 0 ≤ σ 11 0 k ∧ σ 11 0 k < 65536) →  x_G l RX5 cX5_readInto 5 (some .int) 4 n (some (xI (RV_X5_readInto_8 r k e σ q))) (RS_X5_readInto_8 r k e σ q) 8 [(3, xI (e : Int)), (2, xI (q : Int)), (0, xR 10 0), (1, xR 5 r)] [] σ := by
  intro k
  induction k with
  | zero =>
    intro e σ q hk hch
    refine g_iload_n dX5_readInto_8 rfl ?_
    refine g_sipush dX5_readInto_9 (by decide) ?_
    refine g_cmp_ge 47 dX5_readInto_12 rfl (fun c_12 => ?_) (fun c_12 => absurd (by rw [x_nat (by omega), show x_wr 200 = 200 from by decide]; omega) c_12)
    refine g_bipush dX5_readInto_47 (by decide) ?_
    exact f_iret dX5_readInto_49 rfl rfl
  | succ k ih =>
    intro e σ q hk hch
    refine g_iload_n dX5_readInto_8 rfl ?_
    refine g_sipush dX5_readInto_9 (by decide) ?_
    refine g_cmp_ge 47 dX5_readInto_12 rfl (fun c_12 => absurd c_12 (by rw [x_nat (by omega), show x_wr 200 = 200 from by decide]; omega)) (fun c_12 => ?_)
    refine g_iload_n dX5_readInto_15 rfl ?_
    refine g_aload_n dX5_readInto_16 rfl ?_
    refine g_getI dX5_readInto_17 fl_X5_19 (x_vC hn (Nat.le_of_ble_eq_true rfl) (Nat.le_of_ble_eq_true rfl)) rfl rfl ?_
    refine g_cmp_ge 47 dX5_readInto_20 rfl (fun c_20 => ?_) (fun c_20 => ?_)
    · refine g_bipush dX5_readInto_47 (by decide) ?_
      exact f_iret dX5_readInto_49 (by rw [RV_X5_readInto_8, if_pos c_20]) (by rw [RS_X5_readInto_8, if_pos c_20])
    · refine g_aload_n dX5_readInto_23 rfl ?_
      refine g_iload_n dX5_readInto_24 rfl ?_
      refine g_aload_n dX5_readInto_25 rfl ?_
      refine f_V dX5_readInto_26 cs_X5_28 mb_X5_readItem (c_X5_readItem l n _ q r hn (by omega) hr (by omega) hch (by omega)) rfl (x_vC hn (Nat.le_of_ble_eq_true rfl) (Nat.le_of_ble_eq_true rfl)) rfl rfl rfl (Nat.le_of_ble_eq_true rfl) (by decide) (Nat.le_of_ble_eq_true rfl) (Nat.le_refl _) (Nat.le_refl _) ?_
      refine g_istore (lv' := [_, _, _, _, _]) dX5_readInto_29 (Nat.le_of_ble_eq_true rfl) rfl ?_
      refine g_iload dX5_readInto_31 rfl ?_
      refine g_if_ge 38 dX5_readInto_33 rfl (fun c_33 => ?_) (fun c_33 => ?_)
      · refine g_iload dX5_readInto_38 rfl ?_
        have b_E := b_X5_readItem σ q r
        have e_E : V_X5_readItem σ q r = (((V_X5_readItem σ q r).toNat : Nat) : Int) := by rw [x_wr_of (by omega) (by omega)] at c_33; omega
        refine g_eqI (((V_X5_readItem σ q r).toNat : Nat) : Int) e_E ?_
        refine g_istore_n (lv' := [_, _, _, _, _]) dX5_readInto_40 (Nat.le_of_ble_eq_true rfl) rfl ?_
        refine g_iinc (lv' := [(3, xI (((e + 1) : Nat) : Int)), _, _, _, _]) dX5_readInto_41 (Nat.le_of_ble_eq_true rfl) rfl rfl ?_
        refine g_goto 8 dX5_readInto_44 rfl ?_
        refine g_sub (lv2 := [(3, xI (((e + 1) : Nat) : Int)), (2, xI (((V_X5_readItem σ q r).toNat : Nat) : Int)), _, _]) [0, 1, 3, 4] rfl ?_
        exact f_cv (by rw [RV_X5_readInto_8, if_neg c_20, if_pos c_33]) (by rw [RS_X5_readInto_8, if_neg c_20, if_pos c_33]) (ih (e + 1) _ ((V_X5_readItem σ q r).toNat) (by have i_E := i_X5_readItem σ q r (by omega); omega) (by first | exact hch | (simp (disch := omega) only [x_up_o, x_up_k, x_cp_o, fr_S_X5_readItem]; exact hch) | (simp (disch := first | omega | assumption) only [x_up_o, x_up_k, x_cp_o, fr_S_X5_readItem]; exact hch)))
      · refine g_iload_n dX5_readInto_36 rfl ?_
        exact f_iret dX5_readInto_37 (by rw [RV_X5_readInto_8, if_neg c_20, if_neg c_33]) (by rw [RS_X5_readInto_8, if_neg c_20, if_neg c_33])
def V_X5_readInto (σ : xMi) (r : Nat) : Int := (RV_X5_readInto_8 r 200 0 (S_X3_clear σ r) 0)
def S_X5_readInto (σ : xMi) (r : Nat) : xMi := (RS_X5_readInto_8 r 200 0 (S_X3_clear σ r) 0)
theorem fr_S_X5_readInto (σ : xMi) (r : Nat) {t i k : Nat} (h : ¬ (t = 12 ∨ (5 ≤ t ∧ t ≤ 9 ∧ i = r))) : S_X5_readInto σ r t i k = σ t i k := by
  unfold S_X5_readInto
  all_goals ((repeat' split) <;> first | rfl | simp (disch := first | omega | assumption) only [x_up_o, x_up_k, x_cp_o, fr_RS_X5_readInto_8, fr_S_X3_clear])
theorem c_X5_readInto (l : Launch) (n : Nat) (σ : xMi) (r : Nat) (hn : 131 ≤ n) (hr : r < 3) (hch : ∀ k, 0 ≤ σ 11 0 k ∧ σ 11 0 k < 65536) : x_F l yX5_readInto RX5 cX5_readInto 5 (some .int) 4 n σ [xR 10 0, xR 5 r] (some (xI (V_X5_readInto σ r))) (S_X5_readInto σ r) := by
  refine f_of (by decide) rfl (Nat.le_of_ble_eq_true rfl) rfl ?_
  refine g_aload_n dX5_readInto_0 rfl ?_
  refine f_Vv dX5_readInto_1 cs_X5_23 mb_X3_clear (c_X3_clear l n _ r hn hr) rfl (x_vC hn (Nat.le_of_ble_eq_true rfl) hr) rfl rfl rfl (Nat.le_of_ble_eq_true rfl) (by decide) (Nat.le_of_ble_eq_true rfl) (Nat.le_refl _) (Nat.le_refl _) ?_
  refine g_iconst dX5_readInto_4 ?_
  refine g_istore_n (lv' := [_, _, _]) dX5_readInto_5 (Nat.le_of_ble_eq_true rfl) rfl ?_
  refine g_iconst dX5_readInto_6 ?_
  refine g_istore_n (lv' := [_, _, _, _]) dX5_readInto_7 (Nat.le_of_ble_eq_true rfl) rfl ?_
  refine g_sub (lv2 := [(3, xI ((0 : Nat) : Int)), (2, xI ((0 : Nat) : Int)), _, _]) [0, 1, 2, 3] rfl ?_
  exact f_cv rfl rfl (lh_X5_readInto_8 l n r hn hr 200 0 _ 0 (by refine ⟨by omega, by omega, ?_, ?_⟩ <;> simp [S_X3_clear, x_up]) (by first | exact hch | (simp (disch := omega) only [x_up_o, x_up_k, x_cp_o, fr_S_X3_clear]; exact hch) | (simp (disch := first | omega | assumption) only [x_up_o, x_up_k, x_cp_o, fr_S_X3_clear]; exact hch)))
