theorem hw_up {σ : xMi} (h : ∀ j, 0 ≤ σ 44 0 j ∧ σ 44 0 j < 6) (a : Nat) (v : Int) (hv : 0 ≤ v ∧ v < 6) : ∀ j, 0 ≤ (x_up σ 44 0 a v) 44 0 j ∧ (x_up σ 44 0 a v) 44 0 j < 6 := by
  intro j
  rw [x_up_s]
  split
  · exact hv
  · exact h j
theorem hw_107 (R : Nat) : ∀ (k : Nat) (σ : xMi) (aa : Nat) (bb : Int), (∀ j, 0 ≤ σ 44 0 j ∧ σ 44 0 j < 6) → ∀ j, 0 ≤ RS_X7_nextRow_107 R k σ aa bb 44 0 j ∧ RS_X7_nextRow_107 R k σ aa bb 44 0 j < 6 := by
  intro k
  induction k with
  | zero => intro σ aa bb h; exact h
  | succ k ih =>
    intro σ aa bb h
    rw [RS_X7_nextRow_107]
    split
    · exact h
    · exact ih _ _ _ (hw_up (hw_up h _ _ (h _)) _ _ (h _))
theorem hw_47 (R : Nat) : ∀ (k : Nat) (σ : xMi) (aa : Nat) (bb : Int), (∀ j, 0 ≤ σ 44 0 j ∧ σ 44 0 j < 6) → ∀ j, 0 ≤ RS_X7_nextRow_47 R k σ aa bb 44 0 j ∧ RS_X7_nextRow_47 R k σ aa bb 44 0 j < 6 := by
  intro k
  induction k with
  | zero => intro σ aa bb h; exact hw_107 R _ _ _ _ (hw_up (hw_up h _ _ (h _)) _ _ (h _))
  | succ k ih =>
    intro σ aa bb h
    rw [RS_X7_nextRow_47]
    split
    · exact hw_107 R _ _ _ _ (hw_up (hw_up h _ _ (h _)) _ _ (h _))
    · exact ih _ _ _ h
theorem hw_7 (R : Nat) : ∀ (k : Nat) (σ : xMi) (a : Int), (∀ j, 0 ≤ σ 44 0 j ∧ σ 44 0 j < 6) → ∀ j, 0 ≤ RS_X7_nextRow_7 R k σ a 44 0 j ∧ RS_X7_nextRow_7 R k σ a 44 0 j < 6 := by
  intro k
  induction k with
  | zero => intro σ a h; exact h
  | succ k ih =>
    intro σ a h
    rw [RS_X7_nextRow_7]
    split
    · exact h
    · split
      · exact hw_47 R _ _ _ _ h
      · exact ih _ _ h
theorem hw_nextRow (R : Nat) (σ : xMi) (h : ∀ j, 0 ≤ σ 44 0 j ∧ σ 44 0 j < 6) : ∀ j, 0 ≤ S_X7_nextRow σ R 44 0 j ∧ S_X7_nextRow σ R 44 0 j < 6 := hw_7 R _ _ _ h

def IS_X7_mostBy_32 (h1 : Int) (a2 : Int) (R : Nat) : Nat → Nat → xMi → xMi
  | 0, j, σ => σ
  | k + 1, j, σ => (IS_X7_mostBy_32 h1 a2 R k (j + 1) (x_up σ 45 0 j (σ 44 0 j)) )
theorem fr_IS_X7_mostBy_32 (h1 : Int) (a2 : Int) (R : Nat) {t i k' : Nat} (h : ¬ (t = 45)) : ∀ (k j : Nat) (σ : xMi) , IS_X7_mostBy_32 h1 a2 R k j σ  t i k' = σ t i k' := by
  intro k
  induction k with
  | zero => intro j σ ; rfl
  | succ k ih =>
    intro j σ 
    simp only [IS_X7_mostBy_32]
    all_goals (repeat' split)
    all_goals (first | rw [ih] | skip)
    all_goals first | done | simp (disch := first | omega | assumption) only [x_up_o, x_up_k, x_cp_o]
theorem sl_X7_mostBy_32 (l : Launch) (n : Nat) (h1 : Int) (a2 : Int) (R : Nat) (hn : 154 ≤ n) (hR : R ≤ 6) {d : Nat} (hdd : 0 ≤ d) {r : Option xV} {s1 : xMi} : ∀ (k j : Nat) (σ : xMi) , j + k = R → (σ 24 0 31 = (R : Int)) →  x_G l RX7 cX7_mostBy 6 (some .int) d n r s1 61 [(0, xR 24 0), (1, xI h1), (2, xI a2)] [] (IS_X7_mostBy_32 h1 a2 R k j σ ) → x_G l RX7 cX7_mostBy 6 (some .int) d n r s1 32 [(5, xI (j : Int)), (0, xR 24 0), (1, xI h1), (2, xI a2)] [] σ := by
  intro k
  induction k with
  | zero =>
    intro j σ  hk hrm kE
    refine g_iload dX7_mostBy_32 rfl ?_
    refine g_aload_n dX7_mostBy_34 rfl ?_
    refine g_getI dX7_mostBy_35 fl_X7_223 (x_vM hn (Nat.le_of_ble_eq_true rfl) (Nat.le_of_ble_eq_true rfl)) rfl rfl ?_
    refine g_cmp_ge 61 dX7_mostBy_38 rfl (fun c_38 => ?_) (fun c_38 => absurd (by rw [hrm, x_nat (by omega), x_nat (by omega)]; omega) c_38)
    refine g_sub (lv2 := [_, _, _]) [1, 2, 3] rfl ?_
    exact kE
  | succ k ih =>
    intro j σ  hk hrm kE
    refine g_iload dX7_mostBy_32 rfl ?_
    refine g_aload_n dX7_mostBy_34 rfl ?_
    refine g_getI dX7_mostBy_35 fl_X7_223 (x_vM hn (Nat.le_of_ble_eq_true rfl) (Nat.le_of_ble_eq_true rfl)) rfl rfl ?_
    refine g_cmp_ge 61 dX7_mostBy_38 rfl (fun c_38 => absurd c_38 (by rw [hrm, x_nat (by omega), x_nat (by omega)]; omega)) (fun c_38 => ?_)
    refine g_aload_n dX7_mostBy_41 rfl ?_
    refine g_getR (t2 := 45) (i2 := 0) dX7_mostBy_42 fl_X7_70 (x_vM hn (Nat.le_of_ble_eq_true rfl) (Nat.le_of_ble_eq_true rfl)) rfl rfl rfl ?_
    refine g_iload dX7_mostBy_45 rfl ?_
    refine g_aload_n dX7_mostBy_47 rfl ?_
    refine g_getR (t2 := 44) (i2 := 0) dX7_mostBy_48 fl_X7_67 (x_vM hn (Nat.le_of_ble_eq_true rfl) (Nat.le_of_ble_eq_true rfl)) rfl rfl rfl ?_
    refine g_iload dX7_mostBy_51 rfl ?_
    refine g_iald j dX7_mostBy_53 rfl (show j < 6 by omega) (x_vM hn (Nat.le_of_ble_eq_true rfl) (Nat.le_of_ble_eq_true rfl)) rfl ?_
    refine g_iast j dX7_mostBy_54 rfl (show j < 6 by omega) (x_vM hn (Nat.le_of_ble_eq_true rfl) (Nat.le_of_ble_eq_true rfl)) rfl ?_
    refine g_iinc (lv' := [(5, xI (((j + 1) : Nat) : Int)), _, _, _]) dX7_mostBy_55 (Nat.le_of_ble_eq_true rfl) rfl rfl ?_
    refine g_goto 32 dX7_mostBy_58 rfl ?_
    refine g_sub (lv2 := [(5, xI ((j + 1 : Nat) : Int)), _, _, _]) [0, 1, 2, 3] rfl ?_
    refine ih (j + 1) _  (by omega) (by first | exact hrm | (simp (disch := first | omega | assumption) only [x_up_o, x_up_k, x_cp_o]; exact hrm)) ?_
    rw [IS_X7_mostBy_32] at kE
    exact kE

def RP_X7_mostBy_9 (h1 : Int) (K : Nat) (R : Nat) : Nat → xMi → Int → Int → Prop
  | 0, σ, mr, a => x_wr mr = 0
  | k + 1, σ, mr, a => (if x_wr mr = 0 then True else (if x_wr (V_X7_gentleBy σ h1 K R) ≤ x_wr a then (RP_X7_mostBy_9 h1 K R k (S_X7_nextRow (S_X7_gentleBy σ h1 K R) R) (V_X7_nextRow (S_X7_gentleBy σ h1 K R) R) a) else (RP_X7_mostBy_9 h1 K R k (S_X7_nextRow (IS_X7_mostBy_32 h1 (V_X7_gentleBy σ h1 K R) R R 0 (S_X7_gentleBy σ h1 K R) ) R) (V_X7_nextRow (IS_X7_mostBy_32 h1 (V_X7_gentleBy σ h1 K R) R R 0 (S_X7_gentleBy σ h1 K R) ) R) (V_X7_gentleBy σ h1 K R))))
def RV_X7_mostBy_9 (h1 : Int) (K : Nat) (R : Nat) : Nat → xMi → Int → Int → Int
  | 0, σ, mr, a => a
  | k + 1, σ, mr, a => (if x_wr mr = 0 then a else (if x_wr (V_X7_gentleBy σ h1 K R) ≤ x_wr a then (RV_X7_mostBy_9 h1 K R k (S_X7_nextRow (S_X7_gentleBy σ h1 K R) R) (V_X7_nextRow (S_X7_gentleBy σ h1 K R) R) a) else (RV_X7_mostBy_9 h1 K R k (S_X7_nextRow (IS_X7_mostBy_32 h1 (V_X7_gentleBy σ h1 K R) R R 0 (S_X7_gentleBy σ h1 K R) ) R) (V_X7_nextRow (IS_X7_mostBy_32 h1 (V_X7_gentleBy σ h1 K R) R R 0 (S_X7_gentleBy σ h1 K R) ) R) (V_X7_gentleBy σ h1 K R))))
def RS_X7_mostBy_9 (h1 : Int) (K : Nat) (R : Nat) : Nat → xMi → Int → Int → xMi
  | 0, σ, mr, a => σ
  | k + 1, σ, mr, a => (if x_wr mr = 0 then σ else (if x_wr (V_X7_gentleBy σ h1 K R) ≤ x_wr a then (RS_X7_mostBy_9 h1 K R k (S_X7_nextRow (S_X7_gentleBy σ h1 K R) R) (V_X7_nextRow (S_X7_gentleBy σ h1 K R) R) a) else (RS_X7_mostBy_9 h1 K R k (S_X7_nextRow (IS_X7_mostBy_32 h1 (V_X7_gentleBy σ h1 K R) R R 0 (S_X7_gentleBy σ h1 K R) ) R) (V_X7_nextRow (IS_X7_mostBy_32 h1 (V_X7_gentleBy σ h1 K R) R R 0 (S_X7_gentleBy σ h1 K R) ) R) (V_X7_gentleBy σ h1 K R))))
theorem fr_RS_X7_mostBy_9 (h1 : Int) (K : Nat) (R : Nat) {t i k' : Nat} (h : ¬ (t = 43 ∨ t = 44 ∨ t = 45 ∨ (t = 24 ∧ k' = 31) ∨ (t = 24 ∧ 5 ≤ k' ∧ k' ≤ 8) ∨ (29 ≤ t ∧ t ≤ 36))) : ∀ (k : Nat) (σ : xMi) (mr : Int) (a : Int), RS_X7_mostBy_9 h1 K R k σ mr a t i k' = σ t i k' := by
  intro k
  induction k with
  | zero =>
    intro σ mr a
    simp only [RS_X7_mostBy_9]
    all_goals ((repeat' split) <;> simp (disch := first | omega | assumption) only [x_up_o, x_up_k, x_cp_o])
  | succ k ih =>
    intro σ mr a
    simp only [RS_X7_mostBy_9]
    all_goals (repeat' split)
    all_goals (first | rw [ih] | skip)
    all_goals first | done | simp (disch := first | omega | assumption) only [x_up_o, x_up_k, x_cp_o, fr_IS_X7_mostBy_32, fr_S_X7_gentleBy, fr_S_X7_nextRow]
theorem lh_X7_mostBy_9 (l : Launch) (n : Nat) (h1 : Int) (K : Nat) (R : Nat) (hn : 154 ≤ n) (hK : K ≤ 6) (hR : R ≤ 6) : ∀ (k  : Nat) (σ : xMi) (mr : Int) (a : Int), RP_X7_mostBy_9 h1 K R k σ mr a ∧ σ 24 0 31 = (R : Int) ∧ (∀ j, 0 ≤ σ 44 0 j ∧ σ 44 0 j < 6) → (σ 24 0 0 = (K : Int)) →  x_G l RX7 cX7_mostBy 6 (some .int) 4 n (some (xI (RV_X7_mostBy_9 h1 K R k  σ mr a))) (RS_X7_mostBy_9 h1 K R k  σ mr a) 9 [(3, xI mr), (2, xI a), (0, xR 24 0), (1, xI h1)] [] σ := by
  intro k
  induction k with
  | zero =>
    intro  σ mr a hk hmy
    refine g_iload_n dX7_mostBy_9 rfl ?_
    refine g_if_eq 69 dX7_mostBy_10 rfl (fun c_10 => ?_) (fun c_10 => absurd hk.1 c_10)
    refine g_iload_n dX7_mostBy_69 rfl ?_
    exact f_iret dX7_mostBy_70 rfl rfl
  | succ k ih =>
    intro  σ mr a hk hmy
    refine g_iload_n dX7_mostBy_9 rfl ?_
    refine g_if_eq 69 dX7_mostBy_10 rfl (fun c_10 => ?_) (fun c_10 => ?_)
    · refine g_iload_n dX7_mostBy_69 rfl ?_
      exact f_iret dX7_mostBy_70 (by rw [RV_X7_mostBy_9, if_pos c_10]) (by rw [RS_X7_mostBy_9, if_pos c_10])
    · refine g_aload_n dX7_mostBy_13 rfl ?_
      refine g_iload_n dX7_mostBy_14 rfl ?_
      refine f_V dX7_mostBy_15 cs_X7_229 mb_X7_gentleBy (c_X7_gentleBy l n _ h1 K R hn hK hR hmy hk.2.2 hk.2.1) rfl (x_vM hn (Nat.le_of_ble_eq_true rfl) (Nat.le_of_ble_eq_true rfl)) rfl rfl rfl (Nat.le_of_ble_eq_true rfl) (by decide) (Nat.le_of_ble_eq_true rfl) (Nat.le_refl _) (Nat.le_refl _) ?_
      refine g_istore (lv' := [_, _, _, _, _]) dX7_mostBy_18 (Nat.le_of_ble_eq_true rfl) rfl ?_
      refine g_iload dX7_mostBy_20 rfl ?_
      refine g_iload_n dX7_mostBy_22 rfl ?_
      refine g_cmp_le 61 dX7_mostBy_23 rfl (fun c_23 => ?_) (fun c_23 => ?_)
      · refine g_aload_n dX7_mostBy_61 rfl ?_
        refine f_V dX7_mostBy_62 cs_X7_232 mb_X7_nextRow (c_X7_nextRow l n _ R hn hR (by first | exact hk.2.1 | (simp (disch := first | omega | assumption) only [x_up_o, x_up_k, x_cp_o, fr_S_X7_gentleBy]; exact hk.2.1))) rfl (x_vM hn (Nat.le_of_ble_eq_true rfl) (Nat.le_of_ble_eq_true rfl)) rfl rfl rfl (Nat.le_of_ble_eq_true rfl) (by decide) (Nat.le_of_ble_eq_true rfl) (Nat.le_refl _) (Nat.le_refl _) ?_
        refine g_istore_n (lv' := [_, _, _, _, _]) dX7_mostBy_65 (Nat.le_of_ble_eq_true rfl) rfl ?_
        refine g_goto 9 dX7_mostBy_66 rfl ?_
        refine g_sub (lv2 := [_, _, _, _]) [0, 2, 3, 4] rfl ?_
        exact f_cv (by rw [RV_X7_mostBy_9, if_neg c_10, if_pos c_23]) (by rw [RS_X7_mostBy_9, if_neg c_10, if_pos c_23]) (ih  _ _ _ ⟨(by have h9 := hk.1; simp only [RP_X7_mostBy_9] at h9; rw [if_neg c_10, if_pos c_23] at h9; exact h9), (by simp (disch := first | omega | assumption) only [x_up_o, x_up_k, x_cp_o, fr_S_X7_nextRow, fr_S_X7_gentleBy, fr_IS_X7_mostBy_32]; exact hk.2.1), hw_nextRow _ _ (by intro j; simp (disch := first | omega | assumption) only [x_up_o, x_up_k, x_cp_o, fr_S_X7_nextRow, fr_S_X7_gentleBy, fr_IS_X7_mostBy_32]; exact hk.2.2 j)⟩ (by first | exact hmy | (simp (disch := omega) only [x_up_o, x_up_k, x_cp_o, fr_S_X7_gentleBy, fr_S_X7_nextRow]; exact hmy) | (simp (disch := first | omega | assumption) only [x_up_o, x_up_k, x_cp_o, fr_S_X7_gentleBy, fr_S_X7_nextRow]; exact hmy)))
      · refine g_iload dX7_mostBy_26 rfl ?_
        refine g_istore_n (lv' := [_, _, _, _, _]) dX7_mostBy_28 (Nat.le_of_ble_eq_true rfl) rfl ?_
        refine g_iconst dX7_mostBy_29 ?_
        refine g_istore (lv' := [_, _, _, _, _, _]) dX7_mostBy_30 (Nat.le_of_ble_eq_true rfl) rfl ?_
        refine g_sub (lv2 := [(5, xI ((0 : Nat) : Int)), _, _, _]) [0, 4, 5, 1] rfl ?_
        refine sl_X7_mostBy_32 l n h1 (V_X7_gentleBy σ h1 K R) R hn hR (by decide) R 0 _  (by omega) (by simp (disch := first | omega | assumption) only [x_up_o, x_up_k, x_cp_o, fr_S_X7_nextRow, fr_S_X7_gentleBy, fr_IS_X7_mostBy_32]; exact hk.2.1) ?_
        refine g_aload_n dX7_mostBy_61 rfl ?_
        refine f_V dX7_mostBy_62 cs_X7_232 mb_X7_nextRow (c_X7_nextRow l n _ R hn hR (by first | exact hk.2.1 | (simp (disch := first | omega | assumption) only [x_up_o, x_up_k, x_cp_o, fr_IS_X7_mostBy_32, fr_S_X7_gentleBy]; exact hk.2.1))) rfl (x_vM hn (Nat.le_of_ble_eq_true rfl) (Nat.le_of_ble_eq_true rfl)) rfl rfl rfl (Nat.le_of_ble_eq_true rfl) (by decide) (Nat.le_of_ble_eq_true rfl) (Nat.le_refl _) (Nat.le_refl _) ?_
        refine g_istore_n (lv' := [_, _, _, _]) dX7_mostBy_65 (Nat.le_of_ble_eq_true rfl) rfl ?_
        refine g_goto 9 dX7_mostBy_66 rfl ?_
        refine g_sub (lv2 := [_, _, _, _]) [0, 3, 1, 2] rfl ?_
        exact f_cv (by rw [RV_X7_mostBy_9, if_neg c_10, if_neg c_23]) (by rw [RS_X7_mostBy_9, if_neg c_10, if_neg c_23]) (ih  _ _ _ ⟨(by have h9 := hk.1; simp only [RP_X7_mostBy_9] at h9; rw [if_neg c_10, if_neg c_23] at h9; exact h9), (by simp (disch := first | omega | assumption) only [x_up_o, x_up_k, x_cp_o, fr_S_X7_nextRow, fr_S_X7_gentleBy, fr_IS_X7_mostBy_32]; exact hk.2.1), hw_nextRow _ _ (by intro j; simp (disch := first | omega | assumption) only [x_up_o, x_up_k, x_cp_o, fr_S_X7_nextRow, fr_S_X7_gentleBy, fr_IS_X7_mostBy_32]; exact hk.2.2 j)⟩ (by first | exact hmy | (simp (disch := omega) only [x_up_o, x_up_k, x_cp_o, fr_IS_X7_mostBy_32, fr_S_X7_gentleBy, fr_S_X7_nextRow]; exact hmy) | (simp (disch := first | omega | assumption) only [x_up_o, x_up_k, x_cp_o, fr_IS_X7_mostBy_32, fr_S_X7_gentleBy, fr_S_X7_nextRow]; exact hmy)))
def V_X7_mostBy (σ : xMi) (h1 : Int) (K : Nat) (R : Nat) : Int := (RV_X7_mostBy_9 h1 K R 720  (S_X7_firstRow σ K) 1 (-4))
def S_X7_mostBy (σ : xMi) (h1 : Int) (K : Nat) (R : Nat) : xMi := (RS_X7_mostBy_9 h1 K R 720  (S_X7_firstRow σ K) 1 (-4))
theorem fr_S_X7_mostBy (σ : xMi) (h1 : Int) (K : Nat) (R : Nat) {t i k : Nat} (h : ¬ (t = 43 ∨ t = 44 ∨ t = 45 ∨ (t = 24 ∧ k = 31) ∨ (t = 24 ∧ 5 ≤ k ∧ k ≤ 8) ∨ (29 ≤ t ∧ t ≤ 36))) : S_X7_mostBy σ h1 K R t i k = σ t i k := by
  unfold S_X7_mostBy
  all_goals ((repeat' split) <;> first | rfl | simp (disch := first | omega | assumption) only [x_up_o, x_up_k, x_cp_o, fr_RS_X7_mostBy_9, fr_S_X7_firstRow])
theorem c_X7_mostBy (l : Launch) (n : Nat) (σ : xMi) (h1 : Int) (K : Nat) (R : Nat) (hn : 154 ≤ n) (hK : K ≤ 6) (hR : R ≤ 6) (hmy : σ 24 0 0 = (K : Int)) (hst : RP_X7_mostBy_9 h1 K R 720 (S_X7_firstRow σ K) 1 (-4)) (hfr : S_X7_firstRow σ K 24 0 31 = (R : Int)) (hfw : ∀ j, 0 ≤ S_X7_firstRow σ K 44 0 j ∧ S_X7_firstRow σ K 44 0 j < 6) : x_F l yX7_mostBy RX7 cX7_mostBy 6 (some .int) 4 n σ [xR 24 0, xI h1] (some (xI (V_X7_mostBy σ h1 K R))) (S_X7_mostBy σ h1 K R) := by
  refine f_of (by decide) rfl (Nat.le_of_ble_eq_true rfl) rfl ?_
  refine g_bipush dX7_mostBy_0 (by decide) ?_
  refine g_istore_n (lv' := [_, _, _]) dX7_mostBy_2 (Nat.le_of_ble_eq_true rfl) rfl ?_
  refine g_aload_n dX7_mostBy_3 rfl ?_
  refine f_Vv dX7_mostBy_4 cs_X7_226 mb_X7_firstRow (c_X7_firstRow l n _ K hn hK hmy) rfl (x_vM hn (Nat.le_of_ble_eq_true rfl) (Nat.le_of_ble_eq_true rfl)) rfl rfl rfl (Nat.le_of_ble_eq_true rfl) (by decide) (Nat.le_of_ble_eq_true rfl) (Nat.le_refl _) (Nat.le_refl _) ?_
  refine g_iconst dX7_mostBy_7 ?_
  refine g_istore_n (lv' := [_, _, _, _]) dX7_mostBy_8 (Nat.le_of_ble_eq_true rfl) rfl ?_
  refine g_sub (lv2 := [_, _, _, _]) [0, 1, 2, 3] rfl ?_
  exact f_cv rfl rfl (lh_X7_mostBy_9 l n h1 K R hn hK hR 720  _ _ _ ⟨hst, hfr, hfw⟩ (by first | exact hmy | (simp (disch := omega) only [x_up_o, x_up_k, x_cp_o, fr_S_X7_firstRow]; exact hmy) | (simp (disch := first | omega | assumption) only [x_up_o, x_up_k, x_cp_o, fr_S_X7_firstRow]; exact hmy)))
