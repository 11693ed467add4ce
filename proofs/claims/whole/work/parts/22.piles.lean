theorem g_ldcw {l : Launch} {own : String} {cc : ByteArray} {nL : Nat} {ret : Option FieldType} {ini : xB} {d mc ms : Nat} {Q : xP} {n cu su pc : Nat} {lv : List (Nat × xV)} {st : List xV} {ρ : xMr} {σ : xMi} {idx : Nat} {a : Int} {v : Int32} (hd : decode cc pc = .ok (.ldc_w idx, 3)) (hw : Cond.constant own idx v ∈ x_T) (hv : v = Int32.ofInt a) (kk : xGo l own cc nL ret ini d mc ms Q n cu su (pc + 3) lv (xI a :: st) ρ σ) : xGo l own cc nL ret ini d mc ms Q n cu su pc lv st ρ σ := by
  intro p e s m args below meth c B D cy zz H locs ls hC hR hS hl
  subst hv
  exact lv_ldcw hC.1 hC.2.1 hC.2.2.2.1 (hC.2.2.2.2.1 _ hw) hd (kk p e s m args below meth c B D cy zz H locs ls hC hR hS hl)
theorem x_bnar {b : Int} (h : b = 0 ∨ b = 1) : vp_nar .boolean (Int32.ofInt b) = Int32.ofInt b := by
  rcases h with rfl | rfl <;> rfl
theorem x_max_in {a b lo hi : Int} (h1 : lo ≤ a ∧ a ≤ hi) (h2 : lo ≤ b ∧ b ≤ hi) : lo ≤ x_max a b ∧ x_max a b ≤ hi := by
  unfold x_max; split <;> omega
def x_pf (j τ : Nat) : Nat := if j = 0 then 3 + τ else 11 + τ
theorem x_ln14 (j : Nat) : 0 < x_ln 14 j ∧ x_ln 14 j ≤ 8 ∧ (j ≠ 0 → x_ln 14 j = 2) ∧ (j = 0 → x_ln 14 j = 8) := by
  by_cases h : j = 0 <;> simp [x_ln, h]
theorem x_r14 {j τ : Nat} (h : τ < x_ln 14 j) : x_r0 14 j τ = some (0, x_pf j τ) := by
  have := x_ln14 j
  by_cases hj : j = 0
  · simp [x_r0, x_pf, hj]; omega
  · simp [x_r0, x_pf, hj]; omega
theorem x_pf_lt {j τ : Nat} (h : τ < x_ln 14 j) : x_pf j τ < 20 := by
  have := x_ln14 j
  unfold x_pf; split <;> omega
def V_J6_bitCount_0f7a4 (σ : xMi) (v : Int) : Int := (x_and (((x_and (((x_and (v - (x_and (x_ush v 1) 1431655765)) 858993459) + (x_and (x_ush (v - (x_and (x_ush v 1) 1431655765)) 2) 858993459)) + (x_ush ((x_and (v - (x_and (x_ush v 1) 1431655765)) 858993459) + (x_and (x_ush (v - (x_and (x_ush v 1) 1431655765)) 2) 858993459)) 4)) 252645135) + (x_ush (x_and (((x_and (v - (x_and (x_ush v 1) 1431655765)) 858993459) + (x_and (x_ush (v - (x_and (x_ush v 1) 1431655765)) 2) 858993459)) + (x_ush ((x_and (v - (x_and (x_ush v 1) 1431655765)) 858993459) + (x_and (x_ush (v - (x_and (x_ush v 1) 1431655765)) 2) 858993459)) 4)) 252645135) 8)) + (x_ush ((x_and (((x_and (v - (x_and (x_ush v 1) 1431655765)) 858993459) + (x_and (x_ush (v - (x_and (x_ush v 1) 1431655765)) 2) 858993459)) + (x_ush ((x_and (v - (x_and (x_ush v 1) 1431655765)) 858993459) + (x_and (x_ush (v - (x_and (x_ush v 1) 1431655765)) 2) 858993459)) 4)) 252645135) + (x_ush (x_and (((x_and (v - (x_and (x_ush v 1) 1431655765)) 858993459) + (x_and (x_ush (v - (x_and (x_ush v 1) 1431655765)) 2) 858993459)) + (x_ush ((x_and (v - (x_and (x_ush v 1) 1431655765)) 858993459) + (x_and (x_ush (v - (x_and (x_ush v 1) 1431655765)) 2) 858993459)) 4)) 252645135) 8)) 16)) 63)
theorem c_J6_bitCount_0f7a4 (l : Launch) (n : Nat) (σ : xMi) (v : Int) (hn : 131 ≤ n)   : x_F l yJ6_bitCount_0f7a4 RJ6 cJ6_bitCount_0f7a4 1 (some .int) 0 n σ [xI v] (some (xI (V_J6_bitCount_0f7a4 σ v))) σ := by
  refine f_of (by decide) rfl (Nat.le_of_ble_eq_true rfl) rfl ?_
  refine g_iload_n dJ6_bitCount_0f7a4_0 rfl ?_
  refine g_iload_n dJ6_bitCount_0f7a4_1 rfl ?_
  refine g_iconst dJ6_bitCount_0f7a4_2 ?_
  refine g_iushr dJ6_bitCount_0f7a4_3 ?_
  refine g_ldcw (a := 1431655765) dJ6_bitCount_0f7a4_4 ct_J6_265 (by decide) ?_
  refine g_iand dJ6_bitCount_0f7a4_7 ?_
  refine g_isub dJ6_bitCount_0f7a4_8 ?_
  refine g_istore_n (lv' := [_]) dJ6_bitCount_0f7a4_9 (Nat.le_of_ble_eq_true rfl) rfl ?_
  refine g_iload_n dJ6_bitCount_0f7a4_10 rfl ?_
  refine g_ldcw (a := 858993459) dJ6_bitCount_0f7a4_11 ct_J6_266 (by decide) ?_
  refine g_iand dJ6_bitCount_0f7a4_14 ?_
  refine g_iload_n dJ6_bitCount_0f7a4_15 rfl ?_
  refine g_iconst dJ6_bitCount_0f7a4_16 ?_
  refine g_iushr dJ6_bitCount_0f7a4_17 ?_
  refine g_ldcw (a := 858993459) dJ6_bitCount_0f7a4_18 ct_J6_266 (by decide) ?_
  refine g_iand dJ6_bitCount_0f7a4_21 ?_
  refine g_iadd dJ6_bitCount_0f7a4_22 ?_
  refine g_istore_n (lv' := [_]) dJ6_bitCount_0f7a4_23 (Nat.le_of_ble_eq_true rfl) rfl ?_
  refine g_iload_n dJ6_bitCount_0f7a4_24 rfl ?_
  refine g_iload_n dJ6_bitCount_0f7a4_25 rfl ?_
  refine g_iconst dJ6_bitCount_0f7a4_26 ?_
  refine g_iushr dJ6_bitCount_0f7a4_27 ?_
  refine g_iadd dJ6_bitCount_0f7a4_28 ?_
  refine g_ldcw (a := 252645135) dJ6_bitCount_0f7a4_29 ct_J6_267 (by decide) ?_
  refine g_iand dJ6_bitCount_0f7a4_32 ?_
  refine g_istore_n (lv' := [_]) dJ6_bitCount_0f7a4_33 (Nat.le_of_ble_eq_true rfl) rfl ?_
  refine g_iload_n dJ6_bitCount_0f7a4_34 rfl ?_
  refine g_iload_n dJ6_bitCount_0f7a4_35 rfl ?_
  refine g_bipush dJ6_bitCount_0f7a4_36 (by decide) ?_
  refine g_iushr dJ6_bitCount_0f7a4_38 ?_
  refine g_iadd dJ6_bitCount_0f7a4_39 ?_
  refine g_istore_n (lv' := [_]) dJ6_bitCount_0f7a4_40 (Nat.le_of_ble_eq_true rfl) rfl ?_
  refine g_iload_n dJ6_bitCount_0f7a4_41 rfl ?_
  refine g_iload_n dJ6_bitCount_0f7a4_42 rfl ?_
  refine g_bipush dJ6_bitCount_0f7a4_43 (by decide) ?_
  refine g_iushr dJ6_bitCount_0f7a4_45 ?_
  refine g_iadd dJ6_bitCount_0f7a4_46 ?_
  refine g_istore_n (lv' := [_]) dJ6_bitCount_0f7a4_47 (Nat.le_of_ble_eq_true rfl) rfl ?_
  refine g_iload_n dJ6_bitCount_0f7a4_48 rfl ?_
  refine g_bipush dJ6_bitCount_0f7a4_49 (by decide) ?_
  refine g_iand dJ6_bitCount_0f7a4_51 ?_
  exact f_iret dJ6_bitCount_0f7a4_52 rfl rfl

def S_X4_add (σ : xMi) (n1 : Int) (p1 : Int) (b1 : Int) (z : Nat) : xMi := (if x_wr 6 ≤ x_wr (σ 15 0 3) then σ else (x_up (x_up (x_up (x_up σ 16 0 z n1) 17 0 z p1) 18 0 z b1) 15 0 3 (((x_up (x_up (x_up σ 16 0 z n1) 17 0 z p1) 18 0 z b1) 15 0 3) + 1)))
theorem fr_S_X4_add (σ : xMi) (n1 : Int) (p1 : Int) (b1 : Int) (z : Nat) {t i k : Nat} (h : ¬ (15 ≤ t ∧ t ≤ 18)) : S_X4_add σ n1 p1 b1 z t i k = σ t i k := by
  unfold S_X4_add
  all_goals ((repeat' split) <;> first | rfl | simp (disch := first | omega | assumption) only [x_up_o, x_up_k, x_cp_o])
theorem c_X4_add (l : Launch) (n : Nat) (σ : xMi) (n1 : Int) (p1 : Int) (b1 : Int) (z : Nat) (hn : 131 ≤ n) (hz6 : z ≤ 6) (hb1 : b1 = 0 ∨ b1 = 1) (hz : σ 15 0 3 = (z : Int)) : x_F l yX4_add RX4 cX4_add 4 none 0 n σ [xR 15 0, xI n1, xI p1, xI b1] none (S_X4_add σ n1 p1 b1 z) := by
  refine f_of (by decide) rfl (Nat.le_of_ble_eq_true rfl) rfl ?_
  refine g_aload_n dX4_add_0 rfl ?_
  refine g_getI dX4_add_1 fl_X4_22 (x_vC hn (Nat.le_of_ble_eq_true rfl) (Nat.le_of_ble_eq_true rfl)) rfl rfl ?_
  refine g_bipush dX4_add_4 (by decide) ?_
  refine g_cmp_ge 49 dX4_add_6 rfl (fun c_6 => ?_) (fun c_6 => ?_)
  · exact f_vret dX4_add_49 rfl (by rw [S_X4_add, if_pos c_6])
  · have hz5 : z < 6 := by rw [hz, x_nat (by omega), show x_wr 6 = 6 from by decide] at c_6; omega
    refine g_aload_n dX4_add_9 rfl ?_
    refine g_getR (t2 := 16) (i2 := 0) dX4_add_10 fl_X4_9 (x_vC hn (Nat.le_of_ble_eq_true rfl) (Nat.le_of_ble_eq_true rfl)) rfl rfl rfl ?_
    refine g_aload_n dX4_add_13 rfl ?_
    refine g_getI dX4_add_14 fl_X4_22 (x_vC hn (Nat.le_of_ble_eq_true rfl) (Nat.le_of_ble_eq_true rfl)) rfl rfl ?_
    refine g_eqI ((z : Nat) : Int) hz ?_
    refine g_iload_n dX4_add_17 rfl ?_
    refine g_iast z dX4_add_18 rfl hz5 (x_vC hn (Nat.le_of_ble_eq_true rfl) (Nat.le_of_ble_eq_true rfl)) rfl ?_
    refine g_aload_n dX4_add_19 rfl ?_
    refine g_getR (t2 := 17) (i2 := 0) dX4_add_20 fl_X4_15 (x_vC hn (Nat.le_of_ble_eq_true rfl) (Nat.le_of_ble_eq_true rfl)) rfl rfl rfl ?_
    refine g_aload_n dX4_add_23 rfl ?_
    refine g_getI dX4_add_24 fl_X4_22 (x_vC hn (Nat.le_of_ble_eq_true rfl) (Nat.le_of_ble_eq_true rfl)) rfl rfl ?_
    refine g_eqI ((z : Nat) : Int) (by simp (disch := first | omega | assumption) only [x_up_o, x_cp_o]; exact hz) ?_
    refine g_iload_n dX4_add_27 rfl ?_
    refine g_iast z dX4_add_28 rfl hz5 (x_vC hn (Nat.le_of_ble_eq_true rfl) (Nat.le_of_ble_eq_true rfl)) rfl ?_
    refine g_aload_n dX4_add_29 rfl ?_
    refine g_getR (t2 := 18) (i2 := 0) dX4_add_30 fl_X4_18 (x_vC hn (Nat.le_of_ble_eq_true rfl) (Nat.le_of_ble_eq_true rfl)) rfl rfl rfl ?_
    refine g_aload_n dX4_add_33 rfl ?_
    refine g_getI dX4_add_34 fl_X4_22 (x_vC hn (Nat.le_of_ble_eq_true rfl) (Nat.le_of_ble_eq_true rfl)) rfl rfl ?_
    refine g_eqI ((z : Nat) : Int) (by simp (disch := first | omega | assumption) only [x_up_o, x_cp_o]; exact hz) ?_
    refine g_iload_n dX4_add_37 rfl ?_
    refine g_zast z dX4_add_38 rfl hz5 (x_vC hn (Nat.le_of_ble_eq_true rfl) (Nat.le_of_ble_eq_true rfl)) rfl (x_bnar hb1) ?_
    refine g_aload_n dX4_add_39 rfl ?_
    refine g_dup dX4_add_40 rfl ?_
    refine g_getI dX4_add_41 fl_X4_22 (x_vC hn (Nat.le_of_ble_eq_true rfl) (Nat.le_of_ble_eq_true rfl)) rfl rfl ?_
    refine g_iconst dX4_add_44 ?_
    refine g_iadd dX4_add_45 ?_
    refine g_putI dX4_add_46 fl_X4_22 (x_vC hn (Nat.le_of_ble_eq_true rfl) (Nat.le_of_ble_eq_true rfl)) rfl rfl ?_
    exact f_vret dX4_add_49 rfl (by rw [S_X4_add, if_neg c_6])

def RV_X4_holdAfter_2 (n1 : Int) (f : Nat) (z : Nat) : Nat → Nat → xMi → Int
  | 0, p, σ => 1
  | k + 1, p, σ => (if x_wr (σ 16 0 p) = x_wr n1 then (if x_wr (V_X0_isTold σ f (σ 17 0 p).toNat) = x_wr (σ 18 0 p) then (RV_X4_holdAfter_2 n1 f z k (p + 1) σ ) else 0) else (RV_X4_holdAfter_2 n1 f z k (p + 1) σ ))
theorem zr_X4_holdAfter_2 (n1 : Int) (f : Nat) (z : Nat) : ∀ (k p : Nat) (σ : xMi) , RV_X4_holdAfter_2 n1 f z k p σ  = 0 ∨ RV_X4_holdAfter_2 n1 f z k p σ  = 1 := by
  intro k
  induction k with
  | zero =>
    intro p σ 
    simp only [RV_X4_holdAfter_2]
    all_goals ((repeat' split) <;> first | exact Or.inl rfl | exact Or.inr rfl | exact Or.inr trivial | exact Or.inl trivial)
  | succ k ih =>
    intro p σ 
    simp only [RV_X4_holdAfter_2]
    all_goals ((repeat' split) <;> first | exact ih _ _ | exact Or.inl rfl | exact Or.inr rfl | exact Or.inr trivial | exact Or.inl trivial)
theorem lh_X4_holdAfter_2 (l : Launch) (n : Nat) (n1 : Int) (f : Nat) (z : Nat) (hn : 131 ≤ n) (hf : f < 20) (hz6 : z ≤ 6) : ∀ (k p : Nat) (σ : xMi) , p + k = z → (σ 15 0 3 = (z : Int)) → (∀ k, 0 ≤ σ 17 0 k ∧ σ 17 0 k < 6) →  x_G l RX4 cX4_holdAfter 4 (some .boolean) 1 n (some (xI (RV_X4_holdAfter_2 n1 f z k p σ ))) σ 2 [(3, xI (p : Int)), (0, xR 15 0), (1, xI n1), (2, xR 0 f)] [] σ := by
  intro k
  induction k with
  | zero =>
    intro p σ  hk hz hwh
    refine g_iload_n dX4_holdAfter_2 rfl ?_
    refine g_aload_n dX4_holdAfter_3 rfl ?_
    refine g_getI dX4_holdAfter_4 fl_X4_22 (x_vC hn (Nat.le_of_ble_eq_true rfl) (Nat.le_of_ble_eq_true rfl)) rfl rfl ?_
    refine g_cmp_ge 47 dX4_holdAfter_7 rfl (fun c_7 => ?_) (fun c_7 => absurd (by rw [hz, x_nat (by omega), x_nat (by omega)]; omega) c_7)
    refine g_iconst dX4_holdAfter_47 ?_
    exact f_zret dX4_holdAfter_48 (by decide) rfl rfl
  | succ k ih =>
    intro p σ  hk hz hwh
    have hp : p < 6 := by omega
    refine g_iload_n dX4_holdAfter_2 rfl ?_
    refine g_aload_n dX4_holdAfter_3 rfl ?_
    refine g_getI dX4_holdAfter_4 fl_X4_22 (x_vC hn (Nat.le_of_ble_eq_true rfl) (Nat.le_of_ble_eq_true rfl)) rfl rfl ?_
    refine g_cmp_ge 47 dX4_holdAfter_7 rfl (fun c_7 => absurd c_7 (by rw [hz, x_nat (by omega), x_nat (by omega)]; omega)) (fun c_7 => ?_)
    refine g_aload_n dX4_holdAfter_10 rfl ?_
    refine g_getR (t2 := 16) (i2 := 0) dX4_holdAfter_11 fl_X4_9 (x_vC hn (Nat.le_of_ble_eq_true rfl) (Nat.le_of_ble_eq_true rfl)) rfl rfl rfl ?_
    refine g_iload_n dX4_holdAfter_14 rfl ?_
    refine g_iald p dX4_holdAfter_15 rfl hp (x_vC hn (Nat.le_of_ble_eq_true rfl) (Nat.le_of_ble_eq_true rfl)) rfl ?_
    refine g_iload_n dX4_holdAfter_16 rfl ?_
    refine g_cmp_ne 41 dX4_holdAfter_17 rfl (fun c_17 => ?_) (fun c_17 => ?_)
    · refine g_iinc (lv' := [(3, xI (((p + 1) : Nat) : Int)), _, _, _]) dX4_holdAfter_41 (Nat.le_of_ble_eq_true rfl) rfl rfl ?_
      refine g_goto 2 dX4_holdAfter_44 rfl ?_
      refine g_sub (lv2 := [(3, xI (((p + 1) : Nat) : Int)), _, _, _]) [0, 1, 2, 3] rfl ?_
      exact f_cv (by rw [RV_X4_holdAfter_2, if_neg c_17]) rfl (ih (p + 1) _  (by omega) hz hwh)
    · refine g_aload_n dX4_holdAfter_20 rfl ?_
      refine g_aload_n dX4_holdAfter_21 rfl ?_
      refine g_getR (t2 := 17) (i2 := 0) dX4_holdAfter_22 fl_X4_15 (x_vC hn (Nat.le_of_ble_eq_true rfl) (Nat.le_of_ble_eq_true rfl)) rfl rfl rfl ?_
      refine g_iload_n dX4_holdAfter_25 rfl ?_
      refine g_iald p dX4_holdAfter_26 rfl hp (x_vC hn (Nat.le_of_ble_eq_true rfl) (Nat.le_of_ble_eq_true rfl)) rfl ?_
      refine g_eqI (((σ 17 0 p).toNat : Nat) : Int) (by have := hwh p; omega) ?_
      refine f_V dX4_holdAfter_27 cs_X4_42 mb_X0_isTold (c_X0_isTold l n _ f (σ 17 0 p).toNat hn hf (by have := hwh p; omega)) rfl (x_vC hn (Nat.le_of_ble_eq_true rfl) hf) rfl rfl rfl (Nat.le_of_ble_eq_true rfl) (by decide) (Nat.le_of_ble_eq_true rfl) (Nat.le_refl _) (Nat.le_refl _) ?_
      refine g_aload_n dX4_holdAfter_30 rfl ?_
      refine g_getR (t2 := 18) (i2 := 0) dX4_holdAfter_31 fl_X4_18 (x_vC hn (Nat.le_of_ble_eq_true rfl) (Nat.le_of_ble_eq_true rfl)) rfl rfl rfl ?_
      refine g_iload_n dX4_holdAfter_34 rfl ?_
      refine g_zald p dX4_holdAfter_35 rfl hp (x_vC hn (Nat.le_of_ble_eq_true rfl) (Nat.le_of_ble_eq_true rfl)) rfl ?_
      refine g_cmp_eq 41 dX4_holdAfter_36 rfl (fun c_36 => ?_) (fun c_36 => ?_)
      · refine g_iinc (lv' := [(3, xI (((p + 1) : Nat) : Int)), _, _, _]) dX4_holdAfter_41 (Nat.le_of_ble_eq_true rfl) rfl rfl ?_
        refine g_goto 2 dX4_holdAfter_44 rfl ?_
        refine g_sub (lv2 := [(3, xI (((p + 1) : Nat) : Int)), _, _, _]) [0, 1, 2, 3] rfl ?_
        exact f_cv (by rw [RV_X4_holdAfter_2, if_pos c_17, if_pos c_36]) rfl (ih (p + 1) _  (by omega) hz hwh)
      · refine g_iconst dX4_holdAfter_39 ?_
        exact f_zret dX4_holdAfter_40 (by decide) (by rw [RV_X4_holdAfter_2, if_pos c_17, if_neg c_36]) rfl
def V_X4_holdAfter (σ : xMi) (n1 : Int) (f : Nat) (z : Nat) : Int := (RV_X4_holdAfter_2 n1 f z z 0 σ )
theorem z_X4_holdAfter (σ : xMi) (n1 : Int) (f : Nat) (z : Nat) : V_X4_holdAfter σ n1 f z = 0 ∨ V_X4_holdAfter σ n1 f z = 1 := by
  unfold V_X4_holdAfter
  (repeat' split) <;> first | exact Or.inl rfl | exact Or.inr rfl | exact zr_X4_holdAfter_2 _ _ _ _ _ _
theorem c_X4_holdAfter (l : Launch) (n : Nat) (σ : xMi) (n1 : Int) (f : Nat) (z : Nat) (hn : 131 ≤ n) (hf : f < 20) (hz6 : z ≤ 6) (hz : σ 15 0 3 = (z : Int)) (hwh : ∀ k, 0 ≤ σ 17 0 k ∧ σ 17 0 k < 6) : x_F l yX4_holdAfter RX4 cX4_holdAfter 4 (some .boolean) 1 n σ [xR 15 0, xI n1, xR 0 f] (some (xI (V_X4_holdAfter σ n1 f z))) σ := by
  refine f_of (by decide) rfl (Nat.le_of_ble_eq_true rfl) rfl ?_
  refine g_iconst dX4_holdAfter_0 ?_
  refine g_istore_n (lv' := [_, _, _, _]) dX4_holdAfter_1 (Nat.le_of_ble_eq_true rfl) rfl ?_
  refine g_sub (lv2 := [(3, xI ((0 : Nat) : Int)), _, _, _]) [0, 1, 2, 3] rfl ?_
  exact f_cv rfl rfl (lh_X4_holdAfter_2 l n n1 f z hn hf hz6 z 0 _  (by omega) hz hwh)

def RV_X4_allHold_31 (f : Nat) (K : Nat) (z : Nat) : Nat → Nat → xMi → Int → Int
  | 0, e, σ, a => 1
  | k + 1, e, σ, a => (if x_wr (V_X4_holdAfter σ (e : Int) f z) = 0 then 0 else (RV_X4_allHold_31 f K z k (e + 1) (S_X0_passDay σ f 0 K) a))
def RS_X4_allHold_31 (f : Nat) (K : Nat) (z : Nat) : Nat → Nat → xMi → Int → xMi
  | 0, e, σ, a => σ
  | k + 1, e, σ, a => (if x_wr (V_X4_holdAfter σ (e : Int) f z) = 0 then σ else (RS_X4_allHold_31 f K z k (e + 1) (S_X0_passDay σ f 0 K) a))
theorem fr_RS_X4_allHold_31 (f : Nat) (K : Nat) (z : Nat) {t i k' : Nat} (h : ¬ (t ≤ 4 ∧ i = f)) : ∀ (k e : Nat) (σ : xMi) (a : Int), RS_X4_allHold_31 f K z k e σ a t i k' = σ t i k' := by
  intro k
  induction k with
  | zero =>
    intro e σ a
    simp only [RS_X4_allHold_31]
    all_goals ((repeat' split) <;> simp (disch := first | omega | assumption) only [x_up_o, x_up_k, x_cp_o])
  | succ k ih =>
    intro e σ a
    simp only [RS_X4_allHold_31]
    all_goals (repeat' split)
    all_goals (first | rw [ih] | skip)
    all_goals first | done | simp (disch := first | omega | assumption) only [x_up_o, x_up_k, x_cp_o, fr_S_X0_passDay]
theorem zr_X4_allHold_31 (f : Nat) (K : Nat) (z : Nat) : ∀ (k e : Nat) (σ : xMi) (a : Int), RV_X4_allHold_31 f K z k e σ a = 0 ∨ RV_X4_allHold_31 f K z k e σ a = 1 := by
  intro k
  induction k with
  | zero =>
    intro e σ a
    simp only [RV_X4_allHold_31]
    all_goals ((repeat' split) <;> first | exact Or.inl rfl | exact Or.inr rfl | exact Or.inr trivial | exact Or.inl trivial)
  | succ k ih =>
    intro e σ a
    simp only [RV_X4_allHold_31]
    all_goals ((repeat' split) <;> first | exact ih _ _ _ | exact Or.inl rfl | exact Or.inr rfl | exact Or.inr trivial | exact Or.inl trivial)
theorem lh_X4_allHold_31 (l : Launch) (n : Nat) (f : Nat) (K : Nat) (z : Nat) (hn : 131 ≤ n) (hf : f < 20) (hK : K ≤ 6) (hz6 : z ≤ 6) : ∀ (k e : Nat) (σ : xMi) (a : Int), e + k = a.toNat + 1 ∧ 0 ≤ a ∧ a ≤ 40 → (σ 5 (x_rof f) 4 = (K : Int)) → (σ 15 0 3 = (z : Int)) → (∀ k, 0 ≤ σ 17 0 k ∧ σ 17 0 k < 6) → (∀ k, 0 ≤ σ 16 0 k ∧ σ 16 0 k ≤ 40) →  x_G l RX4 cX4_allHold 4 (some .boolean) 4 n (some (xI (RV_X4_allHold_31 f K z k e σ a))) (RS_X4_allHold_31 f K z k e σ a) 31 [(3, xI (e : Int)), (2, xI a), (0, xR 15 0), (1, xR 0 f)] [] σ := by
  intro k
  induction k with
  | zero =>
    intro e σ a hk hsz hz hwh hdb
    refine g_iload_n dX4_allHold_31 rfl ?_
    refine g_iload_n dX4_allHold_32 rfl ?_
    refine g_cmp_gt 58 dX4_allHold_33 rfl (fun c_33 => ?_) (fun c_33 => absurd (by rw [x_nat (by omega), x_wr_of (by omega) (by omega)]; omega) c_33)
    refine g_iconst dX4_allHold_58 ?_
    exact f_zret dX4_allHold_59 (by decide) rfl rfl
  | succ k ih =>
    intro e σ a hk hsz hz hwh hdb
    refine g_iload_n dX4_allHold_31 rfl ?_
    refine g_iload_n dX4_allHold_32 rfl ?_
    refine g_cmp_gt 58 dX4_allHold_33 rfl (fun c_33 => absurd c_33 (by rw [x_nat (by omega), x_wr_of (by omega) (by omega)]; omega)) (fun c_33 => ?_)
    refine g_aload_n dX4_allHold_36 rfl ?_
    refine g_iload_n dX4_allHold_37 rfl ?_
    refine g_aload_n dX4_allHold_38 rfl ?_
    refine f_V dX4_allHold_39 cs_X4_32 mb_X4_holdAfter (c_X4_holdAfter l n _ (e : Int) f z hn hf hz6 hz hwh) rfl (x_vC hn (Nat.le_of_ble_eq_true rfl) (Nat.le_of_ble_eq_true rfl)) rfl rfl rfl (Nat.le_of_ble_eq_true rfl) (by decide) (Nat.le_of_ble_eq_true rfl) (Nat.le_refl _) (Nat.le_refl _) ?_
    refine g_if_ne 47 dX4_allHold_42 rfl (fun c_42 => ?_) (fun c_42 => ?_)
    · refine g_aload_n dX4_allHold_47 rfl ?_
      refine g_iconst dX4_allHold_48 ?_
      refine f_Vv dX4_allHold_49 cs_X4_36 mb_X0_passDay (c_X0_passDay l n _ f 0 K hn hf hK hsz) rfl (x_vC hn (Nat.le_of_ble_eq_true rfl) hf) rfl rfl rfl (Nat.le_of_ble_eq_true rfl) (by decide) (Nat.le_of_ble_eq_true rfl) (Nat.le_refl _) (Nat.le_refl _) ?_
      refine g_iinc (lv' := [(3, xI (((e + 1) : Nat) : Int)), _, _, _]) dX4_allHold_52 (Nat.le_of_ble_eq_true rfl) rfl rfl ?_
      refine g_goto 31 dX4_allHold_55 rfl ?_
      refine g_sub (lv2 := [(3, xI (((e + 1) : Nat) : Int)), _, _, _]) [0, 1, 2, 3] rfl ?_
      exact f_cv (by rw [RV_X4_allHold_31, if_neg c_42]) (by rw [RS_X4_allHold_31, if_neg c_42]) (ih (e + 1) _ _ (by omega) (by first | exact hsz | (simp (disch := omega) only [x_up_o, x_up_k, x_cp_o, fr_S_X0_passDay]; exact hsz) | (simp (disch := first | omega | assumption) only [x_up_o, x_up_k, x_cp_o, fr_S_X0_passDay]; exact hsz)) (by first | exact hz | (simp (disch := omega) only [x_up_o, x_up_k, x_cp_o, fr_S_X0_passDay]; exact hz) | (simp (disch := first | omega | assumption) only [x_up_o, x_up_k, x_cp_o, fr_S_X0_passDay]; exact hz)) (by first | exact hwh | (simp (disch := omega) only [x_up_o, x_up_k, x_cp_o, fr_S_X0_passDay]; exact hwh) | (simp (disch := first | omega | assumption) only [x_up_o, x_up_k, x_cp_o, fr_S_X0_passDay]; exact hwh)) (by first | exact hdb | (simp (disch := omega) only [x_up_o, x_up_k, x_cp_o, fr_S_X0_passDay]; exact hdb) | (simp (disch := first | omega | assumption) only [x_up_o, x_up_k, x_cp_o, fr_S_X0_passDay]; exact hdb)))
    · refine g_iconst dX4_allHold_45 ?_
      exact f_zret dX4_allHold_46 (by decide) (by rw [RV_X4_allHold_31, if_pos c_42]) (by rw [RS_X4_allHold_31, if_pos c_42])
def RV_X4_allHold_4 (f : Nat) (K : Nat) (z : Nat) : Nat → Nat → xMi → Int → Int
  | 0, p, σ, a => (RV_X4_allHold_31 f K z (a.toNat + 1) 0 σ a)
  | k + 1, p, σ, a => (RV_X4_allHold_4 f K z k (p + 1) σ (x_max a (σ 16 0 p)))
def RS_X4_allHold_4 (f : Nat) (K : Nat) (z : Nat) : Nat → Nat → xMi → Int → xMi
  | 0, p, σ, a => (RS_X4_allHold_31 f K z (a.toNat + 1) 0 σ a)
  | k + 1, p, σ, a => (RS_X4_allHold_4 f K z k (p + 1) σ (x_max a (σ 16 0 p)))
theorem fr_RS_X4_allHold_4 (f : Nat) (K : Nat) (z : Nat) {t i k' : Nat} (h : ¬ (t ≤ 4 ∧ i = f)) : ∀ (k p : Nat) (σ : xMi) (a : Int), RS_X4_allHold_4 f K z k p σ a t i k' = σ t i k' := by
  intro k
  induction k with
  | zero =>
    intro p σ a
    simp only [RS_X4_allHold_4]
    all_goals ((repeat' split) <;> simp (disch := first | omega | assumption) only [x_up_o, x_up_k, x_cp_o, fr_RS_X4_allHold_31])
  | succ k ih =>
    intro p σ a
    simp only [RS_X4_allHold_4]
    all_goals (repeat' split)
    all_goals (first | rw [ih] | skip)
    all_goals first | done | simp (disch := first | omega | assumption) only [x_up_o, x_up_k, x_cp_o]
theorem zr_X4_allHold_4 (f : Nat) (K : Nat) (z : Nat) : ∀ (k p : Nat) (σ : xMi) (a : Int), RV_X4_allHold_4 f K z k p σ a = 0 ∨ RV_X4_allHold_4 f K z k p σ a = 1 := by
  intro k
  induction k with
  | zero =>
    intro p σ a
    simp only [RV_X4_allHold_4]
    all_goals ((repeat' split) <;> first | exact Or.inl rfl | exact Or.inr rfl | exact Or.inr trivial | exact Or.inl trivial | exact zr_X4_allHold_31 _ _ _ _ _ _ _)
  | succ k ih =>
    intro p σ a
    simp only [RV_X4_allHold_4]
    all_goals ((repeat' split) <;> first | exact ih _ _ _ | exact Or.inl rfl | exact Or.inr rfl | exact Or.inr trivial | exact Or.inl trivial | exact zr_X4_allHold_31 _ _ _ _ _ _ _)
theorem lh_X4_allHold_4 (l : Launch) (n : Nat) (f : Nat) (K : Nat) (z : Nat) (hn : 131 ≤ n) (hf : f < 20) (hK : K ≤ 6) (hz6 : z ≤ 6) : ∀ (k p : Nat) (σ : xMi) (a : Int), p + k = z ∧ 0 ≤ a ∧ a ≤ 40 → (σ 5 (x_rof f) 4 = (K : Int)) → (σ 15 0 3 = (z : Int)) → (∀ k, 0 ≤ σ 17 0 k ∧ σ 17 0 k < 6) → (∀ k, 0 ≤ σ 16 0 k ∧ σ 16 0 k ≤ 40) →  x_G l RX4 cX4_allHold 4 (some .boolean) 4 n (some (xI (RV_X4_allHold_4 f K z k p σ a))) (RS_X4_allHold_4 f K z k p σ a) 4 [(3, xI (p : Int)), (2, xI a), (0, xR 15 0), (1, xR 0 f)] [] σ := by
  intro k
  induction k with
  | zero =>
    intro p σ a hk hsz hz hwh hdb
    refine g_iload_n dX4_allHold_4 rfl ?_
    refine g_aload_n dX4_allHold_5 rfl ?_
    refine g_getI dX4_allHold_6 fl_X4_22 (x_vC hn (Nat.le_of_ble_eq_true rfl) (Nat.le_of_ble_eq_true rfl)) rfl rfl ?_
    refine g_cmp_ge 29 dX4_allHold_9 rfl (fun c_9 => ?_) (fun c_9 => absurd (by rw [hz, x_nat (by omega), x_nat (by omega)]; omega) c_9)
    refine g_iconst dX4_allHold_29 ?_
    refine g_istore_n (lv' := [_, _, _, _]) dX4_allHold_30 (Nat.le_of_ble_eq_true rfl) rfl ?_
    refine g_sub (lv2 := [(3, xI ((0 : Nat) : Int)), _, _, _]) [0, 1, 2, 3] rfl ?_
    exact f_cv rfl rfl (lh_X4_allHold_31 l n f K z hn hf hK hz6 (a.toNat + 1) 0 _ _ (by omega) hsz hz hwh hdb)
  | succ k ih =>
    intro p σ a hk hsz hz hwh hdb
    have hp : p < 6 := by omega
    refine g_iload_n dX4_allHold_4 rfl ?_
    refine g_aload_n dX4_allHold_5 rfl ?_
    refine g_getI dX4_allHold_6 fl_X4_22 (x_vC hn (Nat.le_of_ble_eq_true rfl) (Nat.le_of_ble_eq_true rfl)) rfl rfl ?_
    refine g_cmp_ge 29 dX4_allHold_9 rfl (fun c_9 => absurd c_9 (by rw [hz, x_nat (by omega), x_nat (by omega)]; omega)) (fun c_9 => ?_)
    refine g_iload_n dX4_allHold_12 rfl ?_
    refine g_aload_n dX4_allHold_13 rfl ?_
    refine g_getR (t2 := 16) (i2 := 0) dX4_allHold_14 fl_X4_9 (x_vC hn (Nat.le_of_ble_eq_true rfl) (Nat.le_of_ble_eq_true rfl)) rfl rfl rfl ?_
    refine g_iload_n dX4_allHold_17 rfl ?_
    refine g_iald p dX4_allHold_18 rfl hp (x_vC hn (Nat.le_of_ble_eq_true rfl) (Nat.le_of_ble_eq_true rfl)) rfl ?_
    refine g_max dX4_allHold_19 cx_X4_26 w_max.1 w_max.2.1 w_max.2.2 (by decide) (Nat.le_of_ble_eq_true rfl) (Nat.le_refl _) (Nat.le_refl _) ?_
    refine g_istore_n (lv' := [_, _, _, _]) dX4_allHold_22 (Nat.le_of_ble_eq_true rfl) rfl ?_
    refine g_iinc (lv' := [(3, xI (((p + 1) : Nat) : Int)), _, _, _]) dX4_allHold_23 (Nat.le_of_ble_eq_true rfl) rfl rfl ?_
    refine g_goto 4 dX4_allHold_26 rfl ?_
    refine g_sub (lv2 := [(3, xI (((p + 1) : Nat) : Int)), _, _, _]) [0, 1, 2, 3] rfl ?_
    exact f_cv rfl rfl (ih (p + 1) _ _ (by have h9 := x_max_in (a := a) (lo := 0) (hi := 40) (by omega) (hdb p); omega) hsz hz hwh hdb)
def V_X4_allHold (σ : xMi) (f : Nat) (K : Nat) (z : Nat) : Int := (RV_X4_allHold_4 f K z z 0 σ 0)
theorem z_X4_allHold (σ : xMi) (f : Nat) (K : Nat) (z : Nat) : V_X4_allHold σ f K z = 0 ∨ V_X4_allHold σ f K z = 1 := by
  unfold V_X4_allHold
  (repeat' split) <;> first | exact Or.inl rfl | exact Or.inr rfl | exact zr_X4_allHold_31 _ _ _ _ _ _ _ | exact zr_X4_allHold_4 _ _ _ _ _ _ _
def S_X4_allHold (σ : xMi) (f : Nat) (K : Nat) (z : Nat) : xMi := (RS_X4_allHold_4 f K z z 0 σ 0)
theorem fr_S_X4_allHold (σ : xMi) (f : Nat) (K : Nat) (z : Nat) {t i k : Nat} (h : ¬ (t ≤ 4 ∧ i = f)) : S_X4_allHold σ f K z t i k = σ t i k := by
  unfold S_X4_allHold
  all_goals ((repeat' split) <;> first | rfl | simp (disch := first | omega | assumption) only [x_up_o, x_up_k, x_cp_o, fr_RS_X4_allHold_4])
theorem c_X4_allHold (l : Launch) (n : Nat) (σ : xMi) (f : Nat) (K : Nat) (z : Nat) (hn : 131 ≤ n) (hf : f < 20) (hK : K ≤ 6) (hz6 : z ≤ 6) (hsz : σ 5 (x_rof f) 4 = (K : Int)) (hz : σ 15 0 3 = (z : Int)) (hwh : ∀ k, 0 ≤ σ 17 0 k ∧ σ 17 0 k < 6) (hdb : ∀ k, 0 ≤ σ 16 0 k ∧ σ 16 0 k ≤ 40) : x_F l yX4_allHold RX4 cX4_allHold 4 (some .boolean) 4 n σ [xR 15 0, xR 0 f] (some (xI (V_X4_allHold σ f K z))) (S_X4_allHold σ f K z) := by
  refine f_of (by decide) rfl (Nat.le_of_ble_eq_true rfl) rfl ?_
  refine g_iconst dX4_allHold_0 ?_
  refine g_istore_n (lv' := [_, _, _]) dX4_allHold_1 (Nat.le_of_ble_eq_true rfl) rfl ?_
  refine g_iconst dX4_allHold_2 ?_
  refine g_istore_n (lv' := [_, _, _, _]) dX4_allHold_3 (Nat.le_of_ble_eq_true rfl) rfl ?_
  refine g_sub (lv2 := [(3, xI ((0 : Nat) : Int)), _, _, _]) [0, 1, 2, 3] rfl ?_
  exact f_cv rfl rfl (lh_X4_allHold_4 l n f K z hn hf hK hz6 z 0 _ _ (by omega) hsz hz hwh hdb)

def S_X2_push (σ : xMi) (j : Nat) (f : Nat) (τ : Nat) : xMi := (if x_wr (x_ln 14 j : Int) ≤ x_wr ((σ 13 j 2) + 1) then (x_up (S_X0_copyFrom (x_up σ 13 j 2 0) (x_pf j 0) f) 13 j 1 (x_min (((S_X0_copyFrom (x_up σ 13 j 2 0) (x_pf j 0) f) 13 j 1) + 1) (x_ln 14 j : Int))) else (x_up (S_X0_copyFrom (x_up σ 13 j 2 ((σ 13 j 2) + 1)) (x_pf j (τ + 1)) f) 13 j 1 (x_min (((S_X0_copyFrom (x_up σ 13 j 2 ((σ 13 j 2) + 1)) (x_pf j (τ + 1)) f) 13 j 1) + 1) (x_ln 14 j : Int))))
theorem c_X2_push (l : Launch) (n : Nat) (σ : xMi) (j : Nat) (f : Nat) (τ : Nat) (hn : 131 ≤ n) (hj : j < 2) (hf : f < 20) (hτL : τ < x_ln 14 j) (hτ : σ 13 j 2 = (τ : Int)) : x_F l yX2_push RX2 cX2_push 2 none 2 n σ [xR 13 j, xR 0 f] none (S_X2_push σ j f τ) := by
  refine f_of (by decide) rfl (Nat.le_of_ble_eq_true rfl) rfl ?_
  refine g_aload_n dX2_push_0 rfl ?_
  refine g_aload_n dX2_push_1 rfl ?_
  refine g_getI dX2_push_2 fl_X2_13 (x_vC hn (Nat.le_of_ble_eq_true rfl) hj) rfl rfl ?_
  refine g_iconst dX2_push_5 ?_
  refine g_iadd dX2_push_6 ?_
  refine g_aload_n dX2_push_7 rfl ?_
  refine g_getR (t2 := 14) (i2 := j) dX2_push_8 fl_X2_24 (x_vC hn (Nat.le_of_ble_eq_true rfl) hj) rfl rfl rfl ?_
  refine g_alen (v := (x_ln 14 j : Int)) dX2_push_11 (x_vC hn (Nat.le_of_ble_eq_true rfl) hj) rfl rfl ?_
  refine g_cmp_ge 24 dX2_push_12 rfl (fun c_12 => ?_) (fun c_12 => ?_)
  · refine g_iconst dX2_push_24 ?_
    refine g_putI dX2_push_25 fl_X2_13 (x_vC hn (Nat.le_of_ble_eq_true rfl) hj) rfl rfl ?_
    refine g_aload_n dX2_push_28 rfl ?_
    refine g_getR (t2 := 14) (i2 := j) dX2_push_29 fl_X2_24 (x_vC hn (Nat.le_of_ble_eq_true rfl) hj) rfl rfl rfl ?_
    refine g_aload_n dX2_push_32 rfl ?_
    refine g_getI dX2_push_33 fl_X2_13 (x_vC hn (Nat.le_of_ble_eq_true rfl) hj) rfl rfl ?_
    refine g_eqI ((0 : Nat) : Int) (by simp [x_up]) ?_
    refine g_aald (t2 := 0) (i2 := (x_pf j 0)) 0 dX2_push_36 rfl (x_ln14 j).1 (x_vC hn (Nat.le_of_ble_eq_true rfl) hj) rfl (x_r14 (x_ln14 j).1) ?_
    refine g_aload_n dX2_push_37 rfl ?_
    refine f_Vv dX2_push_38 cs_X2_31 mb_X0_copyFrom (c_X0_copyFrom l n _ (x_pf j 0) f hn (x_pf_lt (x_ln14 j).1) hf) rfl (x_vC hn (Nat.le_of_ble_eq_true rfl) (x_pf_lt (x_ln14 j).1)) rfl rfl rfl (Nat.le_of_ble_eq_true rfl) (by decide) (Nat.le_of_ble_eq_true rfl) (Nat.le_refl _) (Nat.le_refl _) ?_
    refine g_aload_n dX2_push_41 rfl ?_
    refine g_aload_n dX2_push_42 rfl ?_
    refine g_getI dX2_push_43 fl_X2_7 (x_vC hn (Nat.le_of_ble_eq_true rfl) hj) rfl rfl ?_
    refine g_iconst dX2_push_46 ?_
    refine g_iadd dX2_push_47 ?_
    refine g_aload_n dX2_push_48 rfl ?_
    refine g_getR (t2 := 14) (i2 := j) dX2_push_49 fl_X2_24 (x_vC hn (Nat.le_of_ble_eq_true rfl) hj) rfl rfl rfl ?_
    refine g_alen (v := (x_ln 14 j : Int)) dX2_push_52 (x_vC hn (Nat.le_of_ble_eq_true rfl) hj) rfl rfl ?_
    refine g_min dX2_push_53 cx_X2_35 w_min.1 w_min.2.1 w_min.2.2 (by decide) (Nat.le_of_ble_eq_true rfl) (Nat.le_refl _) (Nat.le_refl _) ?_
    refine g_putI dX2_push_56 fl_X2_7 (x_vC hn (Nat.le_of_ble_eq_true rfl) hj) rfl rfl ?_
    exact f_vret dX2_push_59 rfl (by rw [S_X2_push, if_pos c_12])
  · refine g_aload_n dX2_push_15 rfl ?_
    refine g_getI dX2_push_16 fl_X2_13 (x_vC hn (Nat.le_of_ble_eq_true rfl) hj) rfl rfl ?_
    refine g_iconst dX2_push_19 ?_
    refine g_iadd dX2_push_20 ?_
    refine g_goto 25 dX2_push_21 rfl ?_
    refine g_putI dX2_push_25 fl_X2_13 (x_vC hn (Nat.le_of_ble_eq_true rfl) hj) rfl rfl ?_
    refine g_aload_n dX2_push_28 rfl ?_
    refine g_getR (t2 := 14) (i2 := j) dX2_push_29 fl_X2_24 (x_vC hn (Nat.le_of_ble_eq_true rfl) hj) rfl rfl rfl ?_
    refine g_aload_n dX2_push_32 rfl ?_
    refine g_getI dX2_push_33 fl_X2_13 (x_vC hn (Nat.le_of_ble_eq_true rfl) hj) rfl rfl ?_
    have ht1 : τ + 1 < x_ln 14 j := by have h9 := x_ln14 j; rw [show σ 13 j 2 + 1 = ((τ + 1 : Nat) : Int) by rw [hτ]; rfl, x_nat (by omega), x_nat (by omega)] at c_12; omega
    refine g_eqI ((τ + 1 : Nat) : Int) (by simp [x_up, hτ]) ?_
    refine g_aald (t2 := 0) (i2 := (x_pf j (τ + 1))) (τ + 1) dX2_push_36 rfl ht1 (x_vC hn (Nat.le_of_ble_eq_true rfl) hj) rfl (x_r14 ht1) ?_
    refine g_aload_n dX2_push_37 rfl ?_
    refine f_Vv dX2_push_38 cs_X2_31 mb_X0_copyFrom (c_X0_copyFrom l n _ (x_pf j (τ + 1)) f hn (x_pf_lt ht1) hf) rfl (x_vC hn (Nat.le_of_ble_eq_true rfl) (x_pf_lt ht1)) rfl rfl rfl (Nat.le_of_ble_eq_true rfl) (by decide) (Nat.le_of_ble_eq_true rfl) (Nat.le_refl _) (Nat.le_refl _) ?_
    refine g_aload_n dX2_push_41 rfl ?_
    refine g_aload_n dX2_push_42 rfl ?_
    refine g_getI dX2_push_43 fl_X2_7 (x_vC hn (Nat.le_of_ble_eq_true rfl) hj) rfl rfl ?_
    refine g_iconst dX2_push_46 ?_
    refine g_iadd dX2_push_47 ?_
    refine g_aload_n dX2_push_48 rfl ?_
    refine g_getR (t2 := 14) (i2 := j) dX2_push_49 fl_X2_24 (x_vC hn (Nat.le_of_ble_eq_true rfl) hj) rfl rfl rfl ?_
    refine g_alen (v := (x_ln 14 j : Int)) dX2_push_52 (x_vC hn (Nat.le_of_ble_eq_true rfl) hj) rfl rfl ?_
    refine g_min dX2_push_53 cx_X2_35 w_min.1 w_min.2.1 w_min.2.2 (by decide) (Nat.le_of_ble_eq_true rfl) (Nat.le_refl _) (Nat.le_refl _) ?_
    refine g_putI dX2_push_56 fl_X2_7 (x_vC hn (Nat.le_of_ble_eq_true rfl) hj) rfl rfl ?_
    exact f_vret dX2_push_59 rfl (by rw [S_X2_push, if_neg c_12])

def V_X2_popInto (σ : xMi) (j : Nat) (f : Nat) (τ : Nat) : Int := (if x_wr (σ 13 j 1) = 0 then 0 else (if x_wr ((S_X0_copyFrom σ f (x_pf j τ)) 13 j 2) ≤ 0 then 1 else 1))
theorem z_X2_popInto (σ : xMi) (j : Nat) (f : Nat) (τ : Nat) : V_X2_popInto σ j f τ = 0 ∨ V_X2_popInto σ j f τ = 1 := by
  unfold V_X2_popInto
  (repeat' split) <;> first | exact Or.inl rfl | exact Or.inr rfl
def S_X2_popInto (σ : xMi) (j : Nat) (f : Nat) (τ : Nat) : xMi := (if x_wr (σ 13 j 1) = 0 then σ else (if x_wr ((S_X0_copyFrom σ f (x_pf j τ)) 13 j 2) ≤ 0 then (x_up (x_up (S_X0_copyFrom σ f (x_pf j τ)) 13 j 2 ((x_ln 14 j : Int) - 1)) 13 j 1 (((x_up (S_X0_copyFrom σ f (x_pf j τ)) 13 j 2 ((x_ln 14 j : Int) - 1)) 13 j 1) - 1)) else (x_up (x_up (S_X0_copyFrom σ f (x_pf j τ)) 13 j 2 (((S_X0_copyFrom σ f (x_pf j τ)) 13 j 2) - 1)) 13 j 1 (((x_up (S_X0_copyFrom σ f (x_pf j τ)) 13 j 2 (((S_X0_copyFrom σ f (x_pf j τ)) 13 j 2) - 1)) 13 j 1) - 1))))
theorem fr_S_X2_popInto (σ : xMi) (j : Nat) (f : Nat) (τ : Nat) {t i k : Nat} (h : ¬ ((t = 13 ∧ i = j) ∨ (t ≤ 4 ∧ i = f))) : S_X2_popInto σ j f τ t i k = σ t i k := by
  unfold S_X2_popInto
  all_goals ((repeat' split) <;> first | rfl | simp (disch := first | omega | assumption) only [x_up_o, x_up_k, x_cp_o, fr_S_X0_copyFrom])
theorem c_X2_popInto (l : Launch) (n : Nat) (σ : xMi) (j : Nat) (f : Nat) (τ : Nat) (hn : 131 ≤ n) (hj : j < 2) (hf : f < 20) (hτL : τ < x_ln 14 j) (hτ : σ 13 j 2 = (τ : Int)) : x_F l yX2_popInto RX2 cX2_popInto 2 (some .boolean) 2 n σ [xR 13 j, xR 0 f] (some (xI (V_X2_popInto σ j f τ))) (S_X2_popInto σ j f τ) := by
  refine f_of (by decide) rfl (Nat.le_of_ble_eq_true rfl) rfl ?_
  refine g_aload_n dX2_popInto_0 rfl ?_
  refine g_getI dX2_popInto_1 fl_X2_7 (x_vC hn (Nat.le_of_ble_eq_true rfl) hj) rfl rfl ?_
  refine g_if_ne 9 dX2_popInto_4 rfl (fun c_4 => ?_) (fun c_4 => ?_)
  · refine g_aload_n dX2_popInto_9 rfl ?_
    refine g_aload_n dX2_popInto_10 rfl ?_
    refine g_getR (t2 := 14) (i2 := j) dX2_popInto_11 fl_X2_24 (x_vC hn (Nat.le_of_ble_eq_true rfl) hj) rfl rfl rfl ?_
    refine g_aload_n dX2_popInto_14 rfl ?_
    refine g_getI dX2_popInto_15 fl_X2_13 (x_vC hn (Nat.le_of_ble_eq_true rfl) hj) rfl rfl ?_
    refine g_eqI (τ : Int) hτ ?_
    refine g_aald (t2 := 0) (i2 := (x_pf j τ)) τ dX2_popInto_18 rfl hτL (x_vC hn (Nat.le_of_ble_eq_true rfl) hj) rfl (x_r14 hτL) ?_
    refine f_Vv dX2_popInto_19 cs_X2_31 mb_X0_copyFrom (c_X0_copyFrom l n _ f (x_pf j τ) hn hf (x_pf_lt hτL)) rfl (x_vC hn (Nat.le_of_ble_eq_true rfl) hf) rfl rfl rfl (Nat.le_of_ble_eq_true rfl) (by decide) (Nat.le_of_ble_eq_true rfl) (Nat.le_refl _) (Nat.le_refl _) ?_
    refine g_aload_n dX2_popInto_22 rfl ?_
    refine g_aload_n dX2_popInto_23 rfl ?_
    refine g_getI dX2_popInto_24 fl_X2_13 (x_vC hn (Nat.le_of_ble_eq_true rfl) hj) rfl rfl ?_
    refine g_if_le 39 dX2_popInto_27 rfl (fun c_27 => ?_) (fun c_27 => ?_)
    · refine g_aload_n dX2_popInto_39 rfl ?_
      refine g_getR (t2 := 14) (i2 := j) dX2_popInto_40 fl_X2_24 (x_vC hn (Nat.le_of_ble_eq_true rfl) hj) rfl rfl rfl ?_
      refine g_alen (v := (x_ln 14 j : Int)) dX2_popInto_43 (x_vC hn (Nat.le_of_ble_eq_true rfl) hj) rfl rfl ?_
      refine g_iconst dX2_popInto_44 ?_
      refine g_isub dX2_popInto_45 ?_
      refine g_putI dX2_popInto_46 fl_X2_13 (x_vC hn (Nat.le_of_ble_eq_true rfl) hj) rfl rfl ?_
      refine g_aload_n dX2_popInto_49 rfl ?_
      refine g_dup dX2_popInto_50 rfl ?_
      refine g_getI dX2_popInto_51 fl_X2_7 (x_vC hn (Nat.le_of_ble_eq_true rfl) hj) rfl rfl ?_
      refine g_iconst dX2_popInto_54 ?_
      refine g_isub dX2_popInto_55 ?_
      refine g_putI dX2_popInto_56 fl_X2_7 (x_vC hn (Nat.le_of_ble_eq_true rfl) hj) rfl rfl ?_
      refine g_iconst dX2_popInto_59 ?_
      exact f_zret dX2_popInto_60 (by decide) (by rw [V_X2_popInto, if_neg c_4, if_pos c_27]) (by rw [S_X2_popInto, if_neg c_4, if_pos c_27])
    · refine g_aload_n dX2_popInto_30 rfl ?_
      refine g_getI dX2_popInto_31 fl_X2_13 (x_vC hn (Nat.le_of_ble_eq_true rfl) hj) rfl rfl ?_
      refine g_iconst dX2_popInto_34 ?_
      refine g_isub dX2_popInto_35 ?_
      refine g_goto 46 dX2_popInto_36 rfl ?_
      refine g_putI dX2_popInto_46 fl_X2_13 (x_vC hn (Nat.le_of_ble_eq_true rfl) hj) rfl rfl ?_
      refine g_aload_n dX2_popInto_49 rfl ?_
      refine g_dup dX2_popInto_50 rfl ?_
      refine g_getI dX2_popInto_51 fl_X2_7 (x_vC hn (Nat.le_of_ble_eq_true rfl) hj) rfl rfl ?_
      refine g_iconst dX2_popInto_54 ?_
      refine g_isub dX2_popInto_55 ?_
      refine g_putI dX2_popInto_56 fl_X2_7 (x_vC hn (Nat.le_of_ble_eq_true rfl) hj) rfl rfl ?_
      refine g_iconst dX2_popInto_59 ?_
      exact f_zret dX2_popInto_60 (by decide) (by rw [V_X2_popInto, if_neg c_4, if_neg c_27]) (by rw [S_X2_popInto, if_neg c_4, if_neg c_27])
  · refine g_iconst dX2_popInto_7 ?_
    exact f_zret dX2_popInto_8 (by decide) (by rw [V_X2_popInto, if_pos c_4]) (by rw [S_X2_popInto, if_pos c_4])
