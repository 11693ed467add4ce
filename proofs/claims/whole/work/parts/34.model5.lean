def RV_X7_year_39 (z1 : Int) (n1 : Int) (w1 : Int) (K : Nat) : Nat → Nat → xMi → Int
  | 0, e, σ => (if x_wr w1 = 0 then (V_X7_softWeight σ K) else (if x_wr w1 = x_wr 1 then (V_X7_bits σ (V_X7_toldSet σ K)) else (σ 24 0 6)))
  | k + 1, e, σ => (if x_wr 2 ≤ x_wr (x_rem (x_div (((x_dr z1.toNat e) : Nat) : Int) 8) 4) then (if x_wr (x_rem (x_div (((x_dr z1.toNat e) : Nat) : Int) 8) 4) = x_wr 2 then (if x_wr (σ 29 0 (x_dr z1.toNat e % K)) ≤ 0 then (if x_wr (x_rem (x_div (((x_dr z1.toNat e) : Nat) : Int) 8) 4) = x_wr 3 then (RV_X7_year_39 z1 n1 w1 K k (e + 1) (S_X7_passes (x_up σ 24 0 6 (V_X7_lesser σ 20 ((σ 24 0 6) + 1))) 0 K) ) else (RV_X7_year_39 z1 n1 w1 K k (e + 1) (S_X7_passes σ 0 K) )) else (RV_X7_year_39 z1 n1 w1 K k (e + 1) (S_X7_passes (S_X7_calls σ (x_dr z1.toNat e % K)) 0 K) )) else (if x_wr (x_rem (x_div (((x_dr z1.toNat e) : Nat) : Int) 8) 4) = x_wr 3 then (RV_X7_year_39 z1 n1 w1 K k (e + 1) (S_X7_passes (x_up σ 24 0 6 (V_X7_lesser σ 20 ((σ 24 0 6) + 1))) 0 K) ) else (RV_X7_year_39 z1 n1 w1 K k (e + 1) (S_X7_passes σ 0 K) ))) else (if x_wr (V_X7_maySend σ (x_dr z1.toNat e % K)) = 0 then (if x_wr (x_rem (x_div (((x_dr z1.toNat e) : Nat) : Int) 8) 4) = x_wr 2 then (if x_wr (σ 29 0 (x_dr z1.toNat e % K)) ≤ 0 then (if x_wr (x_rem (x_div (((x_dr z1.toNat e) : Nat) : Int) 8) 4) = x_wr 3 then (RV_X7_year_39 z1 n1 w1 K k (e + 1) (S_X7_passes (x_up σ 24 0 6 (V_X7_lesser σ 20 ((σ 24 0 6) + 1))) 0 K) ) else (RV_X7_year_39 z1 n1 w1 K k (e + 1) (S_X7_passes σ 0 K) )) else (RV_X7_year_39 z1 n1 w1 K k (e + 1) (S_X7_passes (S_X7_calls σ (x_dr z1.toNat e % K)) 0 K) )) else (if x_wr (x_rem (x_div (((x_dr z1.toNat e) : Nat) : Int) 8) 4) = x_wr 3 then (RV_X7_year_39 z1 n1 w1 K k (e + 1) (S_X7_passes (x_up σ 24 0 6 (V_X7_lesser σ 20 ((σ 24 0 6) + 1))) 0 K) ) else (RV_X7_year_39 z1 n1 w1 K k (e + 1) (S_X7_passes σ 0 K) ))) else (RV_X7_year_39 z1 n1 w1 K k (e + 1) (S_X7_passes (S_X7_sends σ (x_dr z1.toNat e % K)) 0 K) )))
def RS_X7_year_39 (z1 : Int) (n1 : Int) (w1 : Int) (K : Nat) : Nat → Nat → xMi → xMi
  | 0, e, σ => (if x_wr w1 = 0 then (S_X7_putBack σ ) else (if x_wr w1 = x_wr 1 then (S_X7_putBack σ ) else (S_X7_putBack σ )))
  | k + 1, e, σ => (if x_wr 2 ≤ x_wr (x_rem (x_div (((x_dr z1.toNat e) : Nat) : Int) 8) 4) then (if x_wr (x_rem (x_div (((x_dr z1.toNat e) : Nat) : Int) 8) 4) = x_wr 2 then (if x_wr (σ 29 0 (x_dr z1.toNat e % K)) ≤ 0 then (if x_wr (x_rem (x_div (((x_dr z1.toNat e) : Nat) : Int) 8) 4) = x_wr 3 then (RS_X7_year_39 z1 n1 w1 K k (e + 1) (S_X7_passes (x_up σ 24 0 6 (V_X7_lesser σ 20 ((σ 24 0 6) + 1))) 0 K) ) else (RS_X7_year_39 z1 n1 w1 K k (e + 1) (S_X7_passes σ 0 K) )) else (RS_X7_year_39 z1 n1 w1 K k (e + 1) (S_X7_passes (S_X7_calls σ (x_dr z1.toNat e % K)) 0 K) )) else (if x_wr (x_rem (x_div (((x_dr z1.toNat e) : Nat) : Int) 8) 4) = x_wr 3 then (RS_X7_year_39 z1 n1 w1 K k (e + 1) (S_X7_passes (x_up σ 24 0 6 (V_X7_lesser σ 20 ((σ 24 0 6) + 1))) 0 K) ) else (RS_X7_year_39 z1 n1 w1 K k (e + 1) (S_X7_passes σ 0 K) ))) else (if x_wr (V_X7_maySend σ (x_dr z1.toNat e % K)) = 0 then (if x_wr (x_rem (x_div (((x_dr z1.toNat e) : Nat) : Int) 8) 4) = x_wr 2 then (if x_wr (σ 29 0 (x_dr z1.toNat e % K)) ≤ 0 then (if x_wr (x_rem (x_div (((x_dr z1.toNat e) : Nat) : Int) 8) 4) = x_wr 3 then (RS_X7_year_39 z1 n1 w1 K k (e + 1) (S_X7_passes (x_up σ 24 0 6 (V_X7_lesser σ 20 ((σ 24 0 6) + 1))) 0 K) ) else (RS_X7_year_39 z1 n1 w1 K k (e + 1) (S_X7_passes σ 0 K) )) else (RS_X7_year_39 z1 n1 w1 K k (e + 1) (S_X7_passes (S_X7_calls σ (x_dr z1.toNat e % K)) 0 K) )) else (if x_wr (x_rem (x_div (((x_dr z1.toNat e) : Nat) : Int) 8) 4) = x_wr 3 then (RS_X7_year_39 z1 n1 w1 K k (e + 1) (S_X7_passes (x_up σ 24 0 6 (V_X7_lesser σ 20 ((σ 24 0 6) + 1))) 0 K) ) else (RS_X7_year_39 z1 n1 w1 K k (e + 1) (S_X7_passes σ 0 K) ))) else (RS_X7_year_39 z1 n1 w1 K k (e + 1) (S_X7_passes (S_X7_sends σ (x_dr z1.toNat e % K)) 0 K) )))
theorem lh_X7_year_39 (l : Launch) (n : Nat) (z1 : Int) (n1 : Int) (w1 : Int) (K : Nat) (hn : 154 ≤ n) (hK : K ≤ 6) (hK0 : 0 < K) (hzw : x_wr z1 = z1) (h1w : x_wr n1 = n1) : ∀ (k e : Nat) (σ : xMi) , e + k = n1.toNat ∧ z1.toNat ≤ 9999 ∧ n1.toNat ≤ 60 → (σ 24 0 0 = (K : Int)) →  x_G l RX7 cX7_year 10 (some .int) 3 n (some (xI (RV_X7_year_39 z1 n1 w1 K k e σ ))) (RS_X7_year_39 z1 n1 w1 K k e σ ) 39 [(4, xI (e : Int)), (0, xR 24 0), (1, xI ((z1.toNat : Nat) : Int)), (2, xI ((n1.toNat : Nat) : Int)), (3, xI w1)] [] σ := by
  intro k
  induction k with
  | zero =>
    intro e σ  hk hmy
    refine g_iload dX7_year_39 rfl ?_
    refine g_iload_n dX7_year_41 rfl ?_
    refine g_cmp_ge 179 dX7_year_42 rfl (fun c_42 => ?_) (fun c_42 => absurd (by rw [x_nat (by omega), x_nat (by omega)]; omega) c_42)
    refine g_iload_n dX7_year_179 rfl ?_
    refine g_if_ne 190 dX7_year_180 rfl (fun c_180 => ?_) (fun c_180 => ?_)
    · refine g_iload_n dX7_year_190 rfl ?_
      refine g_iconst dX7_year_191 ?_
      refine g_cmp_ne 205 dX7_year_192 rfl (fun c_192 => ?_) (fun c_192 => ?_)
      · refine g_aload_n dX7_year_205 rfl ?_
        refine g_getI dX7_year_206 fl_X7_91 (x_vM hn (Nat.le_of_ble_eq_true rfl) (Nat.le_of_ble_eq_true rfl)) rfl rfl ?_
        refine g_istore (lv' := [_, _, _, _, _]) dX7_year_209 (Nat.le_of_ble_eq_true rfl) rfl ?_
        refine g_aload_n dX7_year_211 rfl ?_
        refine f_Vv dX7_year_212 cs_X7_213 mb_X7_putBack (c_X7_putBack l n _  hn) rfl (x_vM hn (Nat.le_of_ble_eq_true rfl) (Nat.le_of_ble_eq_true rfl)) rfl rfl rfl (Nat.le_of_ble_eq_true rfl) (by decide) (Nat.le_of_ble_eq_true rfl) (Nat.le_refl _) (Nat.le_refl _) ?_
        refine g_iload dX7_year_215 rfl ?_
        exact f_iret dX7_year_217 (by rw [RV_X7_year_39, if_neg c_180, if_neg c_192]) (by rw [RS_X7_year_39, if_neg c_180, if_neg c_192])
      · refine g_aload_n dX7_year_195 rfl ?_
        refine f_V dX7_year_196 cs_X7_207 mb_X7_toldSet (c_X7_toldSet l n _ K hn hK hmy) rfl (x_vM hn (Nat.le_of_ble_eq_true rfl) (Nat.le_of_ble_eq_true rfl)) rfl rfl rfl (Nat.le_of_ble_eq_true rfl) (by decide) (Nat.le_of_ble_eq_true rfl) (Nat.le_refl _) (Nat.le_refl _) ?_
        refine f_S dX7_year_199 cs_X7_258 mb_X7_bits (c_X7_bits l n _ (V_X7_toldSet σ K) hn) rfl (Nat.lt_of_lt_of_le (by decide) hn) rfl (Nat.le_of_ble_eq_true rfl) (by decide) (Nat.le_of_ble_eq_true rfl) (Nat.le_refl _) (Nat.le_refl _) ?_
        refine g_goto 209 dX7_year_202 rfl ?_
        refine g_istore (lv' := [_, _, _, _, _]) dX7_year_209 (Nat.le_of_ble_eq_true rfl) rfl ?_
        refine g_aload_n dX7_year_211 rfl ?_
        refine f_Vv dX7_year_212 cs_X7_213 mb_X7_putBack (c_X7_putBack l n _  hn) rfl (x_vM hn (Nat.le_of_ble_eq_true rfl) (Nat.le_of_ble_eq_true rfl)) rfl rfl rfl (Nat.le_of_ble_eq_true rfl) (by decide) (Nat.le_of_ble_eq_true rfl) (Nat.le_refl _) (Nat.le_refl _) ?_
        refine g_iload dX7_year_215 rfl ?_
        exact f_iret dX7_year_217 (by rw [RV_X7_year_39, if_neg c_180, if_pos c_192]) (by rw [RS_X7_year_39, if_neg c_180, if_pos c_192])
    · refine g_aload_n dX7_year_183 rfl ?_
      refine f_V dX7_year_184 cs_X7_216 mb_X7_softWeight (c_X7_softWeight l n _ K hn hK hmy) rfl (x_vM hn (Nat.le_of_ble_eq_true rfl) (Nat.le_of_ble_eq_true rfl)) rfl rfl rfl (Nat.le_of_ble_eq_true rfl) (by decide) (Nat.le_of_ble_eq_true rfl) (Nat.le_refl _) (Nat.le_refl _) ?_
      refine g_goto 209 dX7_year_187 rfl ?_
      refine g_istore (lv' := [_, _, _, _, _]) dX7_year_209 (Nat.le_of_ble_eq_true rfl) rfl ?_
      refine g_aload_n dX7_year_211 rfl ?_
      refine f_Vv dX7_year_212 cs_X7_213 mb_X7_putBack (c_X7_putBack l n _  hn) rfl (x_vM hn (Nat.le_of_ble_eq_true rfl) (Nat.le_of_ble_eq_true rfl)) rfl rfl rfl (Nat.le_of_ble_eq_true rfl) (by decide) (Nat.le_of_ble_eq_true rfl) (Nat.le_refl _) (Nat.le_refl _) ?_
      refine g_iload dX7_year_215 rfl ?_
      exact f_iret dX7_year_217 (by rw [RV_X7_year_39, if_pos c_180]) (by rw [RS_X7_year_39, if_pos c_180])
  | succ k ih =>
    intro e σ  hk hmy
    refine g_iload dX7_year_39 rfl ?_
    refine g_iload_n dX7_year_41 rfl ?_
    refine g_cmp_ge 179 dX7_year_42 rfl (fun c_42 => absurd c_42 (by rw [x_nat (by omega), x_nat (by omega)]; omega)) (fun c_42 => ?_)
    refine g_ldc2 (a := 7919) dX7_year_45 ct_X7_250 (by decide) ?_
    refine g_iload_n dX7_year_48 rfl ?_
    refine g_i2l dX7_year_49 ?_
    refine g_lmul dX7_year_50 ?_
    refine g_ldc2 (a := 6151) dX7_year_51 ct_X7_252 (by decide) ?_
    refine g_iload dX7_year_54 rfl ?_
    refine g_i2l dX7_year_56 ?_
    refine g_lmul dX7_year_57 ?_
    refine g_ladd dX7_year_58 ?_
    refine g_lconst (a := 1) dX7_year_59 (by decide) ?_
    refine g_ladd dX7_year_60 ?_
    refine g_lstore (lv' := [_, _, _, _, _, _]) dX7_year_61 (Nat.le_of_ble_eq_true rfl) rfl ?_
    refine g_lload dX7_year_63 rfl ?_
    refine g_lload dX7_year_65 rfl ?_
    refine g_lmul dX7_year_67 ?_
    refine g_ldc2 (a := 65521) dX7_year_68 ct_X7_254 (by decide) ?_
    refine g_lrem dX7_year_71 (by decide) ?_
    refine g_ldc2 (a := 2) dX7_year_72 ct_X7_256 (by decide) ?_
    refine g_ldiv dX7_year_75 (by decide) ?_
    refine g_l2i dX7_year_76 ?_
    refine g_eqI (((x_dr z1.toNat e) : Nat) : Int) (l_draw (σ := σ) (by omega) (by omega)) ?_
    refine g_istore (lv' := [_, _, _, _, _, _, _]) dX7_year_77 (Nat.le_of_ble_eq_true rfl) rfl ?_
    refine g_iload dX7_year_79 rfl ?_
    refine g_aload_n dX7_year_81 rfl ?_
    refine g_getI dX7_year_82 fl_X7_84 (x_vM hn (Nat.le_of_ble_eq_true rfl) (Nat.le_of_ble_eq_true rfl)) rfl rfl ?_
    refine g_irem dX7_year_85 (by rw [hmy, x_nat (by omega)]; omega) ?_
    refine g_eqI (((x_dr z1.toNat e % K) : Nat) : Int) (by rw [hmy]; exact x_remN (Nat.lt_of_lt_of_le (x_dr_lt _ _) (by decide)) hK0 (by omega)) ?_
    refine g_istore (lv' := [_, _, _, _, _, _, _, _]) dX7_year_86 (Nat.le_of_ble_eq_true rfl) rfl ?_
    refine g_iload dX7_year_88 rfl ?_
    refine g_bipush dX7_year_90 (by decide) ?_
    refine g_idiv dX7_year_92 (by decide) ?_
    refine g_iconst dX7_year_93 ?_
    refine g_irem dX7_year_94 (by decide) ?_
    refine g_istore (lv' := [_, _, _, _, _, _, _, _, _]) dX7_year_95 (Nat.le_of_ble_eq_true rfl) rfl ?_
    refine g_iload dX7_year_97 rfl ?_
    refine g_iconst dX7_year_99 ?_
    refine g_cmp_ge 121 dX7_year_100 rfl (fun c_100 => ?_) (fun c_100 => ?_)
    · refine g_iload dX7_year_121 rfl ?_
      refine g_iconst dX7_year_123 ?_
      refine g_cmp_ne 146 dX7_year_124 rfl (fun c_124 => ?_) (fun c_124 => ?_)
      · refine g_iload dX7_year_146 rfl ?_
        refine g_iconst dX7_year_148 ?_
        refine g_cmp_ne 167 dX7_year_149 rfl (fun c_149 => ?_) (fun c_149 => ?_)
        · refine g_aload_n dX7_year_167 rfl ?_
          refine g_iconst dX7_year_168 ?_
          refine f_V dX7_year_169 cs_X7_158 mb_X7_passes (c_X7_passes l n _ 0 K hn hK hmy) rfl (x_vM hn (Nat.le_of_ble_eq_true rfl) (Nat.le_of_ble_eq_true rfl)) rfl rfl rfl (Nat.le_of_ble_eq_true rfl) (by decide) (Nat.le_of_ble_eq_true rfl) (Nat.le_refl _) (Nat.le_refl _) ?_
          refine g_pop dX7_year_172 rfl ?_
          refine g_iinc (lv' := [(4, xI (((e + 1) : Nat) : Int)), _, _, _, _, _, _, _, _]) dX7_year_173 (Nat.le_of_ble_eq_true rfl) rfl rfl ?_
          refine g_goto 39 dX7_year_176 rfl ?_
          refine g_sub (lv2 := [(4, xI (((e + 1) : Nat) : Int)), _, _, _, _]) [0, 5, 6, 7, 8] rfl ?_
          exact f_cv (by rw [RV_X7_year_39, if_pos c_100, if_neg c_124, if_neg c_149]) (by rw [RS_X7_year_39, if_pos c_100, if_neg c_124, if_neg c_149]) (ih (e + 1) _  (by omega) (by first | exact hmy | (simp (disch := omega) only [x_up_o, x_up_k, x_cp_o, fr_S_X7_passes]; exact hmy) | (simp (disch := first | omega | assumption) only [x_up_o, x_up_k, x_cp_o, fr_S_X7_passes]; exact hmy)))
        · refine g_aload_n dX7_year_152 rfl ?_
          refine g_bipush dX7_year_153 (by decide) ?_
          refine g_aload_n dX7_year_155 rfl ?_
          refine g_getI dX7_year_156 fl_X7_91 (x_vM hn (Nat.le_of_ble_eq_true rfl) (Nat.le_of_ble_eq_true rfl)) rfl rfl ?_
          refine g_iconst dX7_year_159 ?_
          refine g_iadd dX7_year_160 ?_
          refine f_S dX7_year_161 cs_X7_179 mb_X7_lesser (c_X7_lesser l n _ 20 ((σ 24 0 6) + 1) hn) rfl (Nat.lt_of_lt_of_le (by decide) hn) rfl (Nat.le_of_ble_eq_true rfl) (by decide) (Nat.le_of_ble_eq_true rfl) (Nat.le_refl _) (Nat.le_refl _) ?_
          refine g_putI dX7_year_164 fl_X7_91 (x_vM hn (Nat.le_of_ble_eq_true rfl) (Nat.le_of_ble_eq_true rfl)) rfl rfl ?_
          refine g_aload_n dX7_year_167 rfl ?_
          refine g_iconst dX7_year_168 ?_
          refine f_V dX7_year_169 cs_X7_158 mb_X7_passes (c_X7_passes l n _ 0 K hn hK (by first | exact hmy | (simp (disch := first | omega | assumption) only [x_up_o, x_up_k, x_cp_o]; exact hmy))) rfl (x_vM hn (Nat.le_of_ble_eq_true rfl) (Nat.le_of_ble_eq_true rfl)) rfl rfl rfl (Nat.le_of_ble_eq_true rfl) (by decide) (Nat.le_of_ble_eq_true rfl) (Nat.le_refl _) (Nat.le_refl _) ?_
          refine g_pop dX7_year_172 rfl ?_
          refine g_iinc (lv' := [(4, xI (((e + 1) : Nat) : Int)), _, _, _, _, _, _, _, _]) dX7_year_173 (Nat.le_of_ble_eq_true rfl) rfl rfl ?_
          refine g_goto 39 dX7_year_176 rfl ?_
          refine g_sub (lv2 := [(4, xI (((e + 1) : Nat) : Int)), _, _, _, _]) [0, 5, 6, 7, 8] rfl ?_
          exact f_cv (by rw [RV_X7_year_39, if_pos c_100, if_neg c_124, if_pos c_149]) (by rw [RS_X7_year_39, if_pos c_100, if_neg c_124, if_pos c_149]) (ih (e + 1) _  (by omega) (by first | exact hmy | (simp (disch := omega) only [x_up_o, x_up_k, x_cp_o, fr_S_X7_passes]; exact hmy) | (simp (disch := first | omega | assumption) only [x_up_o, x_up_k, x_cp_o, fr_S_X7_passes]; exact hmy)))
      · refine g_aload_n dX7_year_127 rfl ?_
        refine g_getR (t2 := 29) (i2 := 0) dX7_year_128 fl_X7_22 (x_vM hn (Nat.le_of_ble_eq_true rfl) (Nat.le_of_ble_eq_true rfl)) rfl rfl rfl ?_
        refine g_iload dX7_year_131 rfl ?_
        refine g_iald (x_dr z1.toNat e % K) dX7_year_133 rfl (Nat.lt_of_lt_of_le (Nat.mod_lt _ hK0) hK) (x_vM hn (Nat.le_of_ble_eq_true rfl) (Nat.le_of_ble_eq_true rfl)) rfl ?_
        refine g_if_le 146 dX7_year_134 rfl (fun c_134 => ?_) (fun c_134 => ?_)
        · refine g_iload dX7_year_146 rfl ?_
          refine g_iconst dX7_year_148 ?_
          refine g_cmp_ne 167 dX7_year_149 rfl (fun c_149 => ?_) (fun c_149 => ?_)
          · refine g_aload_n dX7_year_167 rfl ?_
            refine g_iconst dX7_year_168 ?_
            refine f_V dX7_year_169 cs_X7_158 mb_X7_passes (c_X7_passes l n _ 0 K hn hK hmy) rfl (x_vM hn (Nat.le_of_ble_eq_true rfl) (Nat.le_of_ble_eq_true rfl)) rfl rfl rfl (Nat.le_of_ble_eq_true rfl) (by decide) (Nat.le_of_ble_eq_true rfl) (Nat.le_refl _) (Nat.le_refl _) ?_
            refine g_pop dX7_year_172 rfl ?_
            refine g_iinc (lv' := [(4, xI (((e + 1) : Nat) : Int)), _, _, _, _, _, _, _, _]) dX7_year_173 (Nat.le_of_ble_eq_true rfl) rfl rfl ?_
            refine g_goto 39 dX7_year_176 rfl ?_
            refine g_sub (lv2 := [(4, xI (((e + 1) : Nat) : Int)), _, _, _, _]) [0, 5, 6, 7, 8] rfl ?_
            exact f_cv (by rw [RV_X7_year_39, if_pos c_100, if_pos c_124, if_pos c_134, if_neg c_149]) (by rw [RS_X7_year_39, if_pos c_100, if_pos c_124, if_pos c_134, if_neg c_149]) (ih (e + 1) _  (by omega) (by first | exact hmy | (simp (disch := omega) only [x_up_o, x_up_k, x_cp_o, fr_S_X7_passes]; exact hmy) | (simp (disch := first | omega | assumption) only [x_up_o, x_up_k, x_cp_o, fr_S_X7_passes]; exact hmy)))
          · refine g_aload_n dX7_year_152 rfl ?_
            refine g_bipush dX7_year_153 (by decide) ?_
            refine g_aload_n dX7_year_155 rfl ?_
            refine g_getI dX7_year_156 fl_X7_91 (x_vM hn (Nat.le_of_ble_eq_true rfl) (Nat.le_of_ble_eq_true rfl)) rfl rfl ?_
            refine g_iconst dX7_year_159 ?_
            refine g_iadd dX7_year_160 ?_
            refine f_S dX7_year_161 cs_X7_179 mb_X7_lesser (c_X7_lesser l n _ 20 ((σ 24 0 6) + 1) hn) rfl (Nat.lt_of_lt_of_le (by decide) hn) rfl (Nat.le_of_ble_eq_true rfl) (by decide) (Nat.le_of_ble_eq_true rfl) (Nat.le_refl _) (Nat.le_refl _) ?_
            refine g_putI dX7_year_164 fl_X7_91 (x_vM hn (Nat.le_of_ble_eq_true rfl) (Nat.le_of_ble_eq_true rfl)) rfl rfl ?_
            refine g_aload_n dX7_year_167 rfl ?_
            refine g_iconst dX7_year_168 ?_
            refine f_V dX7_year_169 cs_X7_158 mb_X7_passes (c_X7_passes l n _ 0 K hn hK (by first | exact hmy | (simp (disch := first | omega | assumption) only [x_up_o, x_up_k, x_cp_o]; exact hmy))) rfl (x_vM hn (Nat.le_of_ble_eq_true rfl) (Nat.le_of_ble_eq_true rfl)) rfl rfl rfl (Nat.le_of_ble_eq_true rfl) (by decide) (Nat.le_of_ble_eq_true rfl) (Nat.le_refl _) (Nat.le_refl _) ?_
            refine g_pop dX7_year_172 rfl ?_
            refine g_iinc (lv' := [(4, xI (((e + 1) : Nat) : Int)), _, _, _, _, _, _, _, _]) dX7_year_173 (Nat.le_of_ble_eq_true rfl) rfl rfl ?_
            refine g_goto 39 dX7_year_176 rfl ?_
            refine g_sub (lv2 := [(4, xI (((e + 1) : Nat) : Int)), _, _, _, _]) [0, 5, 6, 7, 8] rfl ?_
            exact f_cv (by rw [RV_X7_year_39, if_pos c_100, if_pos c_124, if_pos c_134, if_pos c_149]) (by rw [RS_X7_year_39, if_pos c_100, if_pos c_124, if_pos c_134, if_pos c_149]) (ih (e + 1) _  (by omega) (by first | exact hmy | (simp (disch := omega) only [x_up_o, x_up_k, x_cp_o, fr_S_X7_passes]; exact hmy) | (simp (disch := first | omega | assumption) only [x_up_o, x_up_k, x_cp_o, fr_S_X7_passes]; exact hmy)))
        · refine g_aload_n dX7_year_137 rfl ?_
          refine g_iload dX7_year_138 rfl ?_
          refine f_Vv dX7_year_140 cs_X7_191 mb_X7_calls (c_X7_calls l n _ (x_dr z1.toNat e % K) hn (Nat.lt_of_lt_of_le (Nat.mod_lt _ hK0) hK)) rfl (x_vM hn (Nat.le_of_ble_eq_true rfl) (Nat.le_of_ble_eq_true rfl)) rfl rfl rfl (Nat.le_of_ble_eq_true rfl) (by decide) (Nat.le_of_ble_eq_true rfl) (Nat.le_refl _) (Nat.le_refl _) ?_
          refine g_goto 167 dX7_year_143 rfl ?_
          refine g_aload_n dX7_year_167 rfl ?_
          refine g_iconst dX7_year_168 ?_
          refine f_V dX7_year_169 cs_X7_158 mb_X7_passes (c_X7_passes l n _ 0 K hn hK (by first | exact hmy | (simp (disch := first | omega | assumption) only [x_up_o, x_up_k, x_cp_o, fr_S_X7_calls]; exact hmy))) rfl (x_vM hn (Nat.le_of_ble_eq_true rfl) (Nat.le_of_ble_eq_true rfl)) rfl rfl rfl (Nat.le_of_ble_eq_true rfl) (by decide) (Nat.le_of_ble_eq_true rfl) (Nat.le_refl _) (Nat.le_refl _) ?_
          refine g_pop dX7_year_172 rfl ?_
          refine g_iinc (lv' := [(4, xI (((e + 1) : Nat) : Int)), _, _, _, _, _, _, _, _]) dX7_year_173 (Nat.le_of_ble_eq_true rfl) rfl rfl ?_
          refine g_goto 39 dX7_year_176 rfl ?_
          refine g_sub (lv2 := [(4, xI (((e + 1) : Nat) : Int)), _, _, _, _]) [0, 5, 6, 7, 8] rfl ?_
          exact f_cv (by rw [RV_X7_year_39, if_pos c_100, if_pos c_124, if_neg c_134]) (by rw [RS_X7_year_39, if_pos c_100, if_pos c_124, if_neg c_134]) (ih (e + 1) _  (by omega) (by first | exact hmy | (simp (disch := omega) only [x_up_o, x_up_k, x_cp_o, fr_S_X7_calls, fr_S_X7_passes]; exact hmy) | (simp (disch := first | omega | assumption) only [x_up_o, x_up_k, x_cp_o, fr_S_X7_calls, fr_S_X7_passes]; exact hmy)))
    · refine g_aload_n dX7_year_103 rfl ?_
      refine g_iload dX7_year_104 rfl ?_
      refine f_V dX7_year_106 cs_X7_182 mb_X7_maySend (c_X7_maySend l n _ (x_dr z1.toNat e % K) hn (Nat.lt_of_lt_of_le (Nat.mod_lt _ hK0) hK)) rfl (x_vM hn (Nat.le_of_ble_eq_true rfl) (Nat.le_of_ble_eq_true rfl)) rfl rfl rfl (Nat.le_of_ble_eq_true rfl) (by decide) (Nat.le_of_ble_eq_true rfl) (Nat.le_refl _) (Nat.le_refl _) ?_
      refine g_if_eq 121 dX7_year_109 rfl (fun c_109 => ?_) (fun c_109 => ?_)
      · refine g_iload dX7_year_121 rfl ?_
        refine g_iconst dX7_year_123 ?_
        refine g_cmp_ne 146 dX7_year_124 rfl (fun c_124 => ?_) (fun c_124 => ?_)
        · refine g_iload dX7_year_146 rfl ?_
          refine g_iconst dX7_year_148 ?_
          refine g_cmp_ne 167 dX7_year_149 rfl (fun c_149 => ?_) (fun c_149 => ?_)
          · refine g_aload_n dX7_year_167 rfl ?_
            refine g_iconst dX7_year_168 ?_
            refine f_V dX7_year_169 cs_X7_158 mb_X7_passes (c_X7_passes l n _ 0 K hn hK hmy) rfl (x_vM hn (Nat.le_of_ble_eq_true rfl) (Nat.le_of_ble_eq_true rfl)) rfl rfl rfl (Nat.le_of_ble_eq_true rfl) (by decide) (Nat.le_of_ble_eq_true rfl) (Nat.le_refl _) (Nat.le_refl _) ?_
            refine g_pop dX7_year_172 rfl ?_
            refine g_iinc (lv' := [(4, xI (((e + 1) : Nat) : Int)), _, _, _, _, _, _, _, _]) dX7_year_173 (Nat.le_of_ble_eq_true rfl) rfl rfl ?_
            refine g_goto 39 dX7_year_176 rfl ?_
            refine g_sub (lv2 := [(4, xI (((e + 1) : Nat) : Int)), _, _, _, _]) [0, 5, 6, 7, 8] rfl ?_
            exact f_cv (by rw [RV_X7_year_39, if_neg c_100, if_pos c_109, if_neg c_124, if_neg c_149]) (by rw [RS_X7_year_39, if_neg c_100, if_pos c_109, if_neg c_124, if_neg c_149]) (ih (e + 1) _  (by omega) (by first | exact hmy | (simp (disch := omega) only [x_up_o, x_up_k, x_cp_o, fr_S_X7_passes]; exact hmy) | (simp (disch := first | omega | assumption) only [x_up_o, x_up_k, x_cp_o, fr_S_X7_passes]; exact hmy)))
          · refine g_aload_n dX7_year_152 rfl ?_
            refine g_bipush dX7_year_153 (by decide) ?_
            refine g_aload_n dX7_year_155 rfl ?_
            refine g_getI dX7_year_156 fl_X7_91 (x_vM hn (Nat.le_of_ble_eq_true rfl) (Nat.le_of_ble_eq_true rfl)) rfl rfl ?_
            refine g_iconst dX7_year_159 ?_
            refine g_iadd dX7_year_160 ?_
            refine f_S dX7_year_161 cs_X7_179 mb_X7_lesser (c_X7_lesser l n _ 20 ((σ 24 0 6) + 1) hn) rfl (Nat.lt_of_lt_of_le (by decide) hn) rfl (Nat.le_of_ble_eq_true rfl) (by decide) (Nat.le_of_ble_eq_true rfl) (Nat.le_refl _) (Nat.le_refl _) ?_
            refine g_putI dX7_year_164 fl_X7_91 (x_vM hn (Nat.le_of_ble_eq_true rfl) (Nat.le_of_ble_eq_true rfl)) rfl rfl ?_
            refine g_aload_n dX7_year_167 rfl ?_
            refine g_iconst dX7_year_168 ?_
            refine f_V dX7_year_169 cs_X7_158 mb_X7_passes (c_X7_passes l n _ 0 K hn hK (by first | exact hmy | (simp (disch := first | omega | assumption) only [x_up_o, x_up_k, x_cp_o]; exact hmy))) rfl (x_vM hn (Nat.le_of_ble_eq_true rfl) (Nat.le_of_ble_eq_true rfl)) rfl rfl rfl (Nat.le_of_ble_eq_true rfl) (by decide) (Nat.le_of_ble_eq_true rfl) (Nat.le_refl _) (Nat.le_refl _) ?_
            refine g_pop dX7_year_172 rfl ?_
            refine g_iinc (lv' := [(4, xI (((e + 1) : Nat) : Int)), _, _, _, _, _, _, _, _]) dX7_year_173 (Nat.le_of_ble_eq_true rfl) rfl rfl ?_
            refine g_goto 39 dX7_year_176 rfl ?_
            refine g_sub (lv2 := [(4, xI (((e + 1) : Nat) : Int)), _, _, _, _]) [0, 5, 6, 7, 8] rfl ?_
            exact f_cv (by rw [RV_X7_year_39, if_neg c_100, if_pos c_109, if_neg c_124, if_pos c_149]) (by rw [RS_X7_year_39, if_neg c_100, if_pos c_109, if_neg c_124, if_pos c_149]) (ih (e + 1) _  (by omega) (by first | exact hmy | (simp (disch := omega) only [x_up_o, x_up_k, x_cp_o, fr_S_X7_passes]; exact hmy) | (simp (disch := first | omega | assumption) only [x_up_o, x_up_k, x_cp_o, fr_S_X7_passes]; exact hmy)))
        · refine g_aload_n dX7_year_127 rfl ?_
          refine g_getR (t2 := 29) (i2 := 0) dX7_year_128 fl_X7_22 (x_vM hn (Nat.le_of_ble_eq_true rfl) (Nat.le_of_ble_eq_true rfl)) rfl rfl rfl ?_
          refine g_iload dX7_year_131 rfl ?_
          refine g_iald (x_dr z1.toNat e % K) dX7_year_133 rfl (Nat.lt_of_lt_of_le (Nat.mod_lt _ hK0) hK) (x_vM hn (Nat.le_of_ble_eq_true rfl) (Nat.le_of_ble_eq_true rfl)) rfl ?_
          refine g_if_le 146 dX7_year_134 rfl (fun c_134 => ?_) (fun c_134 => ?_)
          · refine g_iload dX7_year_146 rfl ?_
            refine g_iconst dX7_year_148 ?_
            refine g_cmp_ne 167 dX7_year_149 rfl (fun c_149 => ?_) (fun c_149 => ?_)
            · refine g_aload_n dX7_year_167 rfl ?_
              refine g_iconst dX7_year_168 ?_
              refine f_V dX7_year_169 cs_X7_158 mb_X7_passes (c_X7_passes l n _ 0 K hn hK hmy) rfl (x_vM hn (Nat.le_of_ble_eq_true rfl) (Nat.le_of_ble_eq_true rfl)) rfl rfl rfl (Nat.le_of_ble_eq_true rfl) (by decide) (Nat.le_of_ble_eq_true rfl) (Nat.le_refl _) (Nat.le_refl _) ?_
              refine g_pop dX7_year_172 rfl ?_
              refine g_iinc (lv' := [(4, xI (((e + 1) : Nat) : Int)), _, _, _, _, _, _, _, _]) dX7_year_173 (Nat.le_of_ble_eq_true rfl) rfl rfl ?_
              refine g_goto 39 dX7_year_176 rfl ?_
              refine g_sub (lv2 := [(4, xI (((e + 1) : Nat) : Int)), _, _, _, _]) [0, 5, 6, 7, 8] rfl ?_
              exact f_cv (by rw [RV_X7_year_39, if_neg c_100, if_pos c_109, if_pos c_124, if_pos c_134, if_neg c_149]) (by rw [RS_X7_year_39, if_neg c_100, if_pos c_109, if_pos c_124, if_pos c_134, if_neg c_149]) (ih (e + 1) _  (by omega) (by first | exact hmy | (simp (disch := omega) only [x_up_o, x_up_k, x_cp_o, fr_S_X7_passes]; exact hmy) | (simp (disch := first | omega | assumption) only [x_up_o, x_up_k, x_cp_o, fr_S_X7_passes]; exact hmy)))
            · refine g_aload_n dX7_year_152 rfl ?_
              refine g_bipush dX7_year_153 (by decide) ?_
              refine g_aload_n dX7_year_155 rfl ?_
              refine g_getI dX7_year_156 fl_X7_91 (x_vM hn (Nat.le_of_ble_eq_true rfl) (Nat.le_of_ble_eq_true rfl)) rfl rfl ?_
              refine g_iconst dX7_year_159 ?_
              refine g_iadd dX7_year_160 ?_
              refine f_S dX7_year_161 cs_X7_179 mb_X7_lesser (c_X7_lesser l n _ 20 ((σ 24 0 6) + 1) hn) rfl (Nat.lt_of_lt_of_le (by decide) hn) rfl (Nat.le_of_ble_eq_true rfl) (by decide) (Nat.le_of_ble_eq_true rfl) (Nat.le_refl _) (Nat.le_refl _) ?_
              refine g_putI dX7_year_164 fl_X7_91 (x_vM hn (Nat.le_of_ble_eq_true rfl) (Nat.le_of_ble_eq_true rfl)) rfl rfl ?_
              refine g_aload_n dX7_year_167 rfl ?_
              refine g_iconst dX7_year_168 ?_
              refine f_V dX7_year_169 cs_X7_158 mb_X7_passes (c_X7_passes l n _ 0 K hn hK (by first | exact hmy | (simp (disch := first | omega | assumption) only [x_up_o, x_up_k, x_cp_o]; exact hmy))) rfl (x_vM hn (Nat.le_of_ble_eq_true rfl) (Nat.le_of_ble_eq_true rfl)) rfl rfl rfl (Nat.le_of_ble_eq_true rfl) (by decide) (Nat.le_of_ble_eq_true rfl) (Nat.le_refl _) (Nat.le_refl _) ?_
              refine g_pop dX7_year_172 rfl ?_
              refine g_iinc (lv' := [(4, xI (((e + 1) : Nat) : Int)), _, _, _, _, _, _, _, _]) dX7_year_173 (Nat.le_of_ble_eq_true rfl) rfl rfl ?_
              refine g_goto 39 dX7_year_176 rfl ?_
              refine g_sub (lv2 := [(4, xI (((e + 1) : Nat) : Int)), _, _, _, _]) [0, 5, 6, 7, 8] rfl ?_
              exact f_cv (by rw [RV_X7_year_39, if_neg c_100, if_pos c_109, if_pos c_124, if_pos c_134, if_pos c_149]) (by rw [RS_X7_year_39, if_neg c_100, if_pos c_109, if_pos c_124, if_pos c_134, if_pos c_149]) (ih (e + 1) _  (by omega) (by first | exact hmy | (simp (disch := omega) only [x_up_o, x_up_k, x_cp_o, fr_S_X7_passes]; exact hmy) | (simp (disch := first | omega | assumption) only [x_up_o, x_up_k, x_cp_o, fr_S_X7_passes]; exact hmy)))
          · refine g_aload_n dX7_year_137 rfl ?_
            refine g_iload dX7_year_138 rfl ?_
            refine f_Vv dX7_year_140 cs_X7_191 mb_X7_calls (c_X7_calls l n _ (x_dr z1.toNat e % K) hn (Nat.lt_of_lt_of_le (Nat.mod_lt _ hK0) hK)) rfl (x_vM hn (Nat.le_of_ble_eq_true rfl) (Nat.le_of_ble_eq_true rfl)) rfl rfl rfl (Nat.le_of_ble_eq_true rfl) (by decide) (Nat.le_of_ble_eq_true rfl) (Nat.le_refl _) (Nat.le_refl _) ?_
            refine g_goto 167 dX7_year_143 rfl ?_
            refine g_aload_n dX7_year_167 rfl ?_
            refine g_iconst dX7_year_168 ?_
            refine f_V dX7_year_169 cs_X7_158 mb_X7_passes (c_X7_passes l n _ 0 K hn hK (by first | exact hmy | (simp (disch := first | omega | assumption) only [x_up_o, x_up_k, x_cp_o, fr_S_X7_calls]; exact hmy))) rfl (x_vM hn (Nat.le_of_ble_eq_true rfl) (Nat.le_of_ble_eq_true rfl)) rfl rfl rfl (Nat.le_of_ble_eq_true rfl) (by decide) (Nat.le_of_ble_eq_true rfl) (Nat.le_refl _) (Nat.le_refl _) ?_
            refine g_pop dX7_year_172 rfl ?_
            refine g_iinc (lv' := [(4, xI (((e + 1) : Nat) : Int)), _, _, _, _, _, _, _, _]) dX7_year_173 (Nat.le_of_ble_eq_true rfl) rfl rfl ?_
            refine g_goto 39 dX7_year_176 rfl ?_
            refine g_sub (lv2 := [(4, xI (((e + 1) : Nat) : Int)), _, _, _, _]) [0, 5, 6, 7, 8] rfl ?_
            exact f_cv (by rw [RV_X7_year_39, if_neg c_100, if_pos c_109, if_pos c_124, if_neg c_134]) (by rw [RS_X7_year_39, if_neg c_100, if_pos c_109, if_pos c_124, if_neg c_134]) (ih (e + 1) _  (by omega) (by first | exact hmy | (simp (disch := omega) only [x_up_o, x_up_k, x_cp_o, fr_S_X7_calls, fr_S_X7_passes]; exact hmy) | (simp (disch := first | omega | assumption) only [x_up_o, x_up_k, x_cp_o, fr_S_X7_calls, fr_S_X7_passes]; exact hmy)))
      · refine g_aload_n dX7_year_112 rfl ?_
        refine g_iload dX7_year_113 rfl ?_
        refine f_Vv dX7_year_115 cs_X7_188 mb_X7_sends (c_X7_sends l n _ (x_dr z1.toNat e % K) hn (Nat.lt_of_lt_of_le (Nat.mod_lt _ hK0) hK)) rfl (x_vM hn (Nat.le_of_ble_eq_true rfl) (Nat.le_of_ble_eq_true rfl)) rfl rfl rfl (Nat.le_of_ble_eq_true rfl) (by decide) (Nat.le_of_ble_eq_true rfl) (Nat.le_refl _) (Nat.le_refl _) ?_
        refine g_goto 167 dX7_year_118 rfl ?_
        refine g_aload_n dX7_year_167 rfl ?_
        refine g_iconst dX7_year_168 ?_
        refine f_V dX7_year_169 cs_X7_158 mb_X7_passes (c_X7_passes l n _ 0 K hn hK (by first | exact hmy | (simp (disch := first | omega | assumption) only [x_up_o, x_up_k, x_cp_o, fr_S_X7_sends]; exact hmy))) rfl (x_vM hn (Nat.le_of_ble_eq_true rfl) (Nat.le_of_ble_eq_true rfl)) rfl rfl rfl (Nat.le_of_ble_eq_true rfl) (by decide) (Nat.le_of_ble_eq_true rfl) (Nat.le_refl _) (Nat.le_refl _) ?_
        refine g_pop dX7_year_172 rfl ?_
        refine g_iinc (lv' := [(4, xI (((e + 1) : Nat) : Int)), _, _, _, _, _, _, _, _]) dX7_year_173 (Nat.le_of_ble_eq_true rfl) rfl rfl ?_
        refine g_goto 39 dX7_year_176 rfl ?_
        refine g_sub (lv2 := [(4, xI (((e + 1) : Nat) : Int)), _, _, _, _]) [0, 5, 6, 7, 8] rfl ?_
        exact f_cv (by rw [RV_X7_year_39, if_neg c_100, if_neg c_109]) (by rw [RS_X7_year_39, if_neg c_100, if_neg c_109]) (ih (e + 1) _  (by omega) (by first | exact hmy | (simp (disch := omega) only [x_up_o, x_up_k, x_cp_o, fr_S_X7_passes, fr_S_X7_sends]; exact hmy) | (simp (disch := first | omega | assumption) only [x_up_o, x_up_k, x_cp_o, fr_S_X7_passes, fr_S_X7_sends]; exact hmy)))
def V_X7_year (σ : xMi) (z1 : Int) (n1 : Int) (w1 : Int) (K : Nat) : Int := (if x_wr (V_X7_in σ z1 0 9999) = 0 then (-1) else (if x_wr (V_X7_in σ n1 1 60) = 0 then (-1) else (if x_wr (V_X7_in σ w1 0 2) = 0 then (-1) else (RV_X7_year_39 z1 n1 w1 K n1.toNat 0 (S_X7_start σ ) ))))
def S_X7_year (σ : xMi) (z1 : Int) (n1 : Int) (w1 : Int) (K : Nat) : xMi := (if x_wr (V_X7_in σ z1 0 9999) = 0 then σ else (if x_wr (V_X7_in σ n1 1 60) = 0 then σ else (if x_wr (V_X7_in σ w1 0 2) = 0 then σ else (RS_X7_year_39 z1 n1 w1 K n1.toNat 0 (S_X7_start σ ) ))))
theorem c_X7_year (l : Launch) (n : Nat) (σ : xMi) (z1 : Int) (n1 : Int) (w1 : Int) (K : Nat) (hn : 154 ≤ n) (hK : K ≤ 6) (hK0 : 0 < K) (hzw : x_wr z1 = z1) (h1w : x_wr n1 = n1) (hmy : σ 24 0 0 = (K : Int)) : x_F l yX7_year RX7 cX7_year 10 (some .int) 3 n σ [xR 24 0, xI z1, xI n1, xI w1] (some (xI (V_X7_year σ z1 n1 w1 K))) (S_X7_year σ z1 n1 w1 K) := by
  refine f_of (by decide) rfl (Nat.le_of_ble_eq_true rfl) rfl ?_
  refine g_iload_n dX7_year_0 rfl ?_
  refine g_iconst dX7_year_1 ?_
  refine g_sipush dX7_year_2 (by decide) ?_
  refine f_S dX7_year_5 cs_X7_100 mb_X7_in (c_X7_in l n _ z1 0 9999 hn) rfl (Nat.lt_of_lt_of_le (by decide) hn) rfl (Nat.le_of_ble_eq_true rfl) (by decide) (Nat.le_of_ble_eq_true rfl) (Nat.le_refl _) (Nat.le_refl _) ?_
  refine g_if_eq 30 dX7_year_8 rfl (fun c_8 => ?_) (fun c_8 => ?_)
  · refine g_iconst dX7_year_30 ?_
    exact f_iret dX7_year_31 (by rw [V_X7_year, if_pos c_8]) (by rw [S_X7_year, if_pos c_8])
  · refine g_iload_n dX7_year_11 rfl ?_
    refine g_iconst dX7_year_12 ?_
    refine g_bipush dX7_year_13 (by decide) ?_
    refine f_S dX7_year_15 cs_X7_100 mb_X7_in (c_X7_in l n _ n1 1 60 hn) rfl (Nat.lt_of_lt_of_le (by decide) hn) rfl (Nat.le_of_ble_eq_true rfl) (by decide) (Nat.le_of_ble_eq_true rfl) (Nat.le_refl _) (Nat.le_refl _) ?_
    refine g_if_eq 30 dX7_year_18 rfl (fun c_18 => ?_) (fun c_18 => ?_)
    · refine g_iconst dX7_year_30 ?_
      exact f_iret dX7_year_31 (by rw [V_X7_year, if_neg c_8, if_pos c_18]) (by rw [S_X7_year, if_neg c_8, if_pos c_18])
    · refine g_iload_n dX7_year_21 rfl ?_
      refine g_iconst dX7_year_22 ?_
      refine g_iconst dX7_year_23 ?_
      refine f_S dX7_year_24 cs_X7_100 mb_X7_in (c_X7_in l n _ w1 0 2 hn) rfl (Nat.lt_of_lt_of_le (by decide) hn) rfl (Nat.le_of_ble_eq_true rfl) (by decide) (Nat.le_of_ble_eq_true rfl) (Nat.le_refl _) (Nat.le_refl _) ?_
      refine g_if_ne 32 dX7_year_27 rfl (fun c_27 => ?_) (fun c_27 => ?_)
      · have hZ : z1 = ((z1.toNat : Nat) : Int) ∧ z1.toNat ≤ 9999 := by have h9 := l_in hzw c_8; rw [show x_wr 0 = 0 from by decide, show x_wr 9999 = 9999 from by decide] at h9; omega
        refine g_lveq (lv2 := [(0, xR 24 0), (1, xI ((z1.toNat : Nat) : Int)), (2, xI n1), (3, xI w1)]) (by rw [← hZ.1] <;> rfl) ?_
        have hN : n1 = ((n1.toNat : Nat) : Int) ∧ n1.toNat ≤ 60 := by have h9 := l_in h1w c_18; rw [show x_wr 1 = 1 from by decide, show x_wr 60 = 60 from by decide] at h9; omega
        refine g_lveq (lv2 := [(0, xR 24 0), (1, xI ((z1.toNat : Nat) : Int)), (2, xI ((n1.toNat : Nat) : Int)), (3, xI w1)]) (by rw [← hN.1] <;> rfl) ?_
        refine g_aload_n dX7_year_32 rfl ?_
        refine f_Vv dX7_year_33 cs_X7_201 mb_X7_start (c_X7_start l n _  hn) rfl (x_vM hn (Nat.le_of_ble_eq_true rfl) (Nat.le_of_ble_eq_true rfl)) rfl rfl rfl (Nat.le_of_ble_eq_true rfl) (by decide) (Nat.le_of_ble_eq_true rfl) (Nat.le_refl _) (Nat.le_refl _) ?_
        refine g_iconst dX7_year_36 ?_
        refine g_istore (lv' := [_, _, _, _, _]) dX7_year_37 (Nat.le_of_ble_eq_true rfl) rfl ?_
        refine g_sub (lv2 := [(4, xI ((0 : Nat) : Int)), _, _, _, _]) [0, 1, 2, 3, 4] rfl ?_
        exact f_cv (by rw [V_X7_year, if_neg c_8, if_neg c_18, if_neg c_27]) (by rw [S_X7_year, if_neg c_8, if_neg c_18, if_neg c_27]) (lh_X7_year_39 l n z1 n1 w1 K hn hK hK0 hzw h1w n1.toNat 0 _  (by omega) (by first | exact hmy | (simp (disch := omega) only [x_up_o, x_up_k, x_cp_o, fr_S_X7_start]; exact hmy) | (simp (disch := first | omega | assumption) only [x_up_o, x_up_k, x_cp_o, fr_S_X7_start]; exact hmy)))
      · refine g_iconst dX7_year_30 ?_
        exact f_iret dX7_year_31 (by rw [V_X7_year, if_neg c_8, if_neg c_18, if_pos c_27]) (by rw [S_X7_year, if_neg c_8, if_neg c_18, if_pos c_27])

theorem l_cmpJ0 {b : Nat} (hb : b < 2 ^ 62) : x_wr (x_cmpJ (b : Int) 0) = 0 ↔ b = 0 := by
  unfold x_cmpJ x_wr
  rw [Int32.ofInt_toInt, x_ofkJ, show Int64.ofInt 0 = lN 0 from rfl]
  unfold lg_cmp
  by_cases h : b = 0
  · subst h; simp
  · rw [if_pos ((pk_lLT (by decide) (by omega)).mpr (Nat.pos_of_ne_zero h))]
    simp [h]
theorem l_wrJ {b : Nat} (hb : b < 2 ^ 62) : x_wrJ (b : Int) = b := by
  unfold x_wrJ; rw [x_ofkJ, pk_lT (by omega)]
def RV_X7_common_6 (a1 : Int) (b1 : Int) : Nat → xMi → Int → Int → Int
  | 0, σ, a, b2 => a
  | k + 1, σ, a, b2 => (if x_wr (x_cmpJ b2 0) = 0 then a else (RV_X7_common_6 a1 b1 k σ b2 (x_remJ a b2)))
theorem lh_X7_common_6 (l : Launch) (n : Nat) (a1 : Int) (b1 : Int) (hn : 154 ≤ n) (hab : 0 ≤ a1 ∧ a1 ≤ 10000000000 ∧ 0 ≤ b1 ∧ b1 ≤ 10000000000) : ∀ (k  : Nat) (σ : xMi) (a : Int) (b2 : Int), 0 ≤ a ∧ a ≤ 10000000000 ∧ 0 ≤ b2 ∧ b2 ≤ 10000000000 ∧ b2 ≤ (k : Int) →  x_G l RX7 cX7_common 10 (some .long) 0 n (some (xJ (RV_X7_common_6 a1 b1 k  σ a b2))) σ 6 [(4, xJ a), (6, xJ b2), (0, xJ a1), (2, xJ b1)] [] σ := by
  intro k
  induction k with
  | zero =>
    intro  σ a b2 hk 
    refine g_lload dX7_common_6 rfl ?_
    refine g_lconst (a := 0) dX7_common_8 (by decide) ?_
    refine g_lcmp dX7_common_9 ?_
    refine g_if_eq 31 dX7_common_10 rfl (fun c_10 => ?_) (fun c_10 => absurd (by rw [show b2 = ((0 : Nat) : Int) by omega]; exact (l_cmpJ0 (by decide)).mpr rfl) c_10)
    refine g_lload dX7_common_31 rfl ?_
    exact f_lret dX7_common_33 rfl rfl
  | succ k ih =>
    intro  σ a b2 hk 
    refine g_lload dX7_common_6 rfl ?_
    refine g_lconst (a := 0) dX7_common_8 (by decide) ?_
    refine g_lcmp dX7_common_9 ?_
    refine g_if_eq 31 dX7_common_10 rfl (fun c_10 => ?_) (fun c_10 => ?_)
    · refine g_lload dX7_common_31 rfl ?_
      exact f_lret dX7_common_33 (by rw [RV_X7_common_6, if_pos c_10]) rfl
    · obtain ⟨bn, hbn, hb1⟩ : ∃ bn : Nat, b2 = (bn : Int) ∧ 0 < bn := ⟨b2.toNat, by omega, by have h9 := l_cmpJ0 (b := b2.toNat) (by omega); rw [show ((b2.toNat : Nat) : Int) = b2 by omega] at h9; omega⟩
      refine g_lload dX7_common_13 rfl ?_
      refine g_lload dX7_common_15 rfl ?_
      refine g_lrem dX7_common_17 (by rw [hbn, l_wrJ (by omega)]; omega) ?_
      refine g_lstore (lv' := [_, _, _, _, _]) dX7_common_18 (Nat.le_of_ble_eq_true rfl) rfl ?_
      refine g_lload dX7_common_20 rfl ?_
      refine g_lstore (lv' := [_, _, _, _, _]) dX7_common_22 (Nat.le_of_ble_eq_true rfl) rfl ?_
      refine g_lload dX7_common_24 rfl ?_
      refine g_lstore (lv' := [_, _, _, _, _]) dX7_common_26 (Nat.le_of_ble_eq_true rfl) rfl ?_
      have h9 : x_remJ a b2 = ((a.toNat % bn : Nat) : Int) := by rw [hbn, show a = ((a.toNat : Nat) : Int) by omega]; exact x_remJN (by omega) hb1 (by omega)
      have h8 := Nat.mod_lt a.toNat hb1
      refine g_goto 6 dX7_common_28 rfl ?_
      refine g_sub (lv2 := [_, _, _, _]) [1, 0, 3, 4] rfl ?_
      exact f_cv (by rw [RV_X7_common_6, if_neg c_10]) rfl (ih  _ _ _ (by rw [h9]; omega) )
def V_X7_common (σ : xMi) (a1 : Int) (b1 : Int) : Int := (RV_X7_common_6 a1 b1 b1.toNat  σ a1 b1)
theorem c_X7_common (l : Launch) (n : Nat) (σ : xMi) (a1 : Int) (b1 : Int) (hn : 154 ≤ n) (hab : 0 ≤ a1 ∧ a1 ≤ 10000000000 ∧ 0 ≤ b1 ∧ b1 ≤ 10000000000)  : x_F l yX7_common RX7 cX7_common 10 (some .long) 0 n σ [xJ a1, xJ b1] (some (xJ (V_X7_common σ a1 b1))) σ := by
  refine f_of (by decide) rfl (Nat.le_of_ble_eq_true rfl) rfl ?_
  refine g_lload_n dX7_common_0 rfl ?_
  refine g_lstore (lv' := [_, _, _]) dX7_common_1 (Nat.le_of_ble_eq_true rfl) rfl ?_
  refine g_lload_n dX7_common_3 rfl ?_
  refine g_lstore (lv' := [_, _, _, _]) dX7_common_4 (Nat.le_of_ble_eq_true rfl) rfl ?_
  refine g_sub (lv2 := [_, _, _, _]) [1, 0, 2, 3] rfl ?_
  exact f_cv rfl rfl (lh_X7_common_6 l n a1 b1 hn hab b1.toNat  _ _ _ (by omega) )

theorem p_common (a1 b1 : Int) : ∀ (k : Nat) (σ : xMi) (a b2 : Int), 0 ≤ a ∧ a ≤ 10000000000 ∧ 0 ≤ b2 ∧ b2 ≤ 10000000000 ∧ b2 ≤ (k : Int) ∧ (0 < a ∨ 0 < b2) → 0 < RV_X7_common_6 a1 b1 k σ a b2 ∧ RV_X7_common_6 a1 b1 k σ a b2 ≤ 10000000000 := by
  intro k
  induction k with
  | zero => intro σ a b2 h; simp only [RV_X7_common_6]; omega
  | succ k ih =>
    intro σ a b2 h
    simp only [RV_X7_common_6]
    by_cases hb : b2 = 0
    · subst hb
      rw [if_pos (show x_wr (x_cmpJ 0 0) = 0 from by decide)]; omega
    · obtain ⟨bn, hbn, hb1⟩ : ∃ bn : Nat, b2 = (bn : Int) ∧ 0 < bn := ⟨b2.toNat, by omega, by omega⟩
      rw [if_neg (by rw [hbn, l_cmpJ0 (by omega)]; omega)]
      have h9 : x_remJ a b2 = ((a.toNat % bn : Nat) : Int) := by rw [hbn, show a = ((a.toNat : Nat) : Int) by omega]; exact x_remJN (by omega) hb1 (by omega)
      have h8 := Nat.mod_lt a.toNat hb1
      exact ih σ b2 (x_remJ a b2) (by rw [h9]; omega)
def IS_X7_likely_90 (p1 : Int) (n1 : Int) (x1 : Int) (t1 : Int) (K : Nat) (sm : Int) (wh : Int) (q : Nat) : Nat → Nat → xMi → Int → xMi
  | 0, e, σ, wt => σ
  | k + 1, e, σ, wt => (if x_wr (V_X7_has σ (q : Int) (e : Int)) = 0 then (IS_X7_likely_90 p1 n1 x1 t1 K sm wh q k (e + 1) (S_X7_passes σ (V_X7_has σ (q : Int) (e : Int)) K) (wt * (x_wr (10 - x1)))) else (IS_X7_likely_90 p1 n1 x1 t1 K sm wh q k (e + 1) (S_X7_passes σ (V_X7_has σ (q : Int) (e : Int)) K) (wt * (x_wr x1))))
theorem fr_IS_X7_likely_90 (p1 : Int) (n1 : Int) (x1 : Int) (t1 : Int) (K : Nat) (sm : Int) (wh : Int) (q : Nat) {t i k' : Nat} (h : ¬ ((t = 24 ∧ 5 ≤ k' ∧ k' ≤ 8) ∨ (29 ≤ t ∧ t ≤ 36))) : ∀ (k e : Nat) (σ : xMi) (wt : Int), IS_X7_likely_90 p1 n1 x1 t1 K sm wh q k e σ wt t i k' = σ t i k' := by
  intro k
  induction k with
  | zero => intro e σ wt; rfl
  | succ k ih =>
    intro e σ wt
    simp only [IS_X7_likely_90]
    all_goals (repeat' split)
    all_goals (first | rw [ih] | skip)
    all_goals first | done | simp (disch := first | omega | assumption) only [x_up_o, x_up_k, x_cp_o, fr_S_X7_passes]
def IA_X7_likely_90_wt (p1 : Int) (n1 : Int) (x1 : Int) (t1 : Int) (K : Nat) (sm : Int) (wh : Int) (q : Nat) : Nat → Nat → xMi → Int → Int
  | 0, e, σ, wt => wt
  | k + 1, e, σ, wt => (if x_wr (V_X7_has σ (q : Int) (e : Int)) = 0 then (IA_X7_likely_90_wt p1 n1 x1 t1 K sm wh q k (e + 1) (S_X7_passes σ (V_X7_has σ (q : Int) (e : Int)) K) (wt * (x_wr (10 - x1)))) else (IA_X7_likely_90_wt p1 n1 x1 t1 K sm wh q k (e + 1) (S_X7_passes σ (V_X7_has σ (q : Int) (e : Int)) K) (wt * (x_wr x1))))
theorem sl_X7_likely_90 (l : Launch) (n : Nat) (p1 : Int) (n1 : Int) (x1 : Int) (t1 : Int) (K : Nat) (sm : Int) (wh : Int) (q : Nat) (hn : 154 ≤ n) (hK : K ≤ 6) (hn7 : n1.toNat ≤ 7) {d : Nat} (hdd : 3 ≤ d) {r : Option xV} {s1 : xMi} : ∀ (k e : Nat) (σ : xMi) (wt : Int), e + k = n1.toNat → (σ 24 0 0 = (K : Int)) →  x_G l RX7 cX7_likely 13 (some .int) d n r s1 139 [(10, xJ (IA_X7_likely_90_wt p1 n1 x1 t1 K sm wh q k e σ wt)), (0, xR 24 0), (1, xI ((p1.toNat : Nat) : Int)), (2, xI ((n1.toNat : Nat) : Int)), (3, xI x1), (4, xI t1), (5, xJ sm), (7, xJ wh), (9, xI (q : Int))] [] (IS_X7_likely_90 p1 n1 x1 t1 K sm wh q k e σ wt) → x_G l RX7 cX7_likely 13 (some .int) d n r s1 90 [(12, xI (e : Int)), (10, xJ wt), (0, xR 24 0), (1, xI ((p1.toNat : Nat) : Int)), (2, xI ((n1.toNat : Nat) : Int)), (3, xI x1), (4, xI t1), (5, xJ sm), (7, xJ wh), (9, xI (q : Int))] [] σ := by
  intro k
  induction k with
  | zero =>
    intro e σ wt hk hmy kE
    refine g_iload dX7_likely_90 rfl ?_
    refine g_iload_n dX7_likely_92 rfl ?_
    refine g_cmp_ge 139 dX7_likely_93 rfl (fun c_93 => ?_) (fun c_93 => absurd (by rw [x_nat (by omega), x_nat (by omega)]; omega) c_93)
    refine g_sub (lv2 := [_, _, _, _, _, _, _, _, _]) [1, 2, 3, 4, 5, 6, 7, 8, 9] rfl ?_
    exact kE
  | succ k ih =>
    intro e σ wt hk hmy kE
    refine g_iload dX7_likely_90 rfl ?_
    refine g_iload_n dX7_likely_92 rfl ?_
    refine g_cmp_ge 139 dX7_likely_93 rfl (fun c_93 => absurd c_93 (by rw [x_nat (by omega), x_nat (by omega)]; omega)) (fun c_93 => ?_)
    refine g_lload dX7_likely_96 rfl ?_
    refine g_iload dX7_likely_98 rfl ?_
    refine g_iload dX7_likely_100 rfl ?_
    refine f_S dX7_likely_102 cs_X7_243 mb_X7_has (c_X7_has l n _ (q : Int) (e : Int) hn) rfl (Nat.lt_of_lt_of_le (by decide) hn) rfl (Nat.le_of_ble_eq_true rfl) (by omega) (Nat.le_of_ble_eq_true rfl) (Nat.le_refl _) (Nat.le_refl _) ?_
    refine g_if_eq 113 dX7_likely_105 rfl (fun c_105 => ?_) (fun c_105 => ?_)
    · refine g_bipush dX7_likely_113 (by decide) ?_
      refine g_iload_n dX7_likely_115 rfl ?_
      refine g_isub dX7_likely_116 ?_
      refine g_i2l dX7_likely_117 ?_
      refine g_lmul dX7_likely_118 ?_
      refine g_lstore (lv' := [_, _, _, _, _, _, _, _, _, _]) dX7_likely_119 (Nat.le_of_ble_eq_true rfl) rfl ?_
      refine g_aload_n dX7_likely_121 rfl ?_
      refine g_iload dX7_likely_122 rfl ?_
      refine g_iload dX7_likely_124 rfl ?_
      refine f_S dX7_likely_126 cs_X7_243 mb_X7_has (c_X7_has l n _ (q : Int) (e : Int) hn) rfl (Nat.lt_of_lt_of_le (by decide) hn) rfl (Nat.le_of_ble_eq_true rfl) (by omega) (Nat.le_of_ble_eq_true rfl) (Nat.le_refl _) (Nat.le_refl _) ?_
      refine f_V dX7_likely_129 cs_X7_158 mb_X7_passes (c_X7_passes l n _ (V_X7_has σ (q : Int) (e : Int)) K hn hK hmy) rfl (x_vM hn (Nat.le_of_ble_eq_true rfl) (Nat.le_of_ble_eq_true rfl)) rfl rfl rfl (Nat.le_of_ble_eq_true rfl) (by omega) (Nat.le_of_ble_eq_true rfl) (Nat.le_refl _) (Nat.le_refl _) ?_
      refine g_pop dX7_likely_132 rfl ?_
      refine g_iinc (lv' := [(12, xI (((e + 1) : Nat) : Int)), _, _, _, _, _, _, _, _, _]) dX7_likely_133 (Nat.le_of_ble_eq_true rfl) rfl rfl ?_
      refine g_goto 90 dX7_likely_136 rfl ?_
      refine g_sub (lv2 := [(12, xI ((e + 1 : Nat) : Int)), _, _, _, _, _, _, _, _, _]) [0, 1, 2, 3, 4, 5, 6, 7, 8, 9] rfl ?_
      refine ih (e + 1) _ _ (by omega) (by first | exact hmy | (simp (disch := first | omega | assumption) only [x_up_o, x_up_k, x_cp_o, fr_S_X7_passes]; exact hmy)) ?_
      rw [IA_X7_likely_90_wt, IS_X7_likely_90] at kE
      simp only [if_pos c_105, if_true, if_false, if_pos rfl] at kE
      exact kE
    · refine g_iload_n dX7_likely_108 rfl ?_
      refine g_i2l dX7_likely_109 ?_
      refine g_goto 118 dX7_likely_110 rfl ?_
      refine g_lmul dX7_likely_118 ?_
      refine g_lstore (lv' := [_, _, _, _, _, _, _, _, _, _]) dX7_likely_119 (Nat.le_of_ble_eq_true rfl) rfl ?_
      refine g_aload_n dX7_likely_121 rfl ?_
      refine g_iload dX7_likely_122 rfl ?_
      refine g_iload dX7_likely_124 rfl ?_
      refine f_S dX7_likely_126 cs_X7_243 mb_X7_has (c_X7_has l n _ (q : Int) (e : Int) hn) rfl (Nat.lt_of_lt_of_le (by decide) hn) rfl (Nat.le_of_ble_eq_true rfl) (by omega) (Nat.le_of_ble_eq_true rfl) (Nat.le_refl _) (Nat.le_refl _) ?_
      refine f_V dX7_likely_129 cs_X7_158 mb_X7_passes (c_X7_passes l n _ (V_X7_has σ (q : Int) (e : Int)) K hn hK hmy) rfl (x_vM hn (Nat.le_of_ble_eq_true rfl) (Nat.le_of_ble_eq_true rfl)) rfl rfl rfl (Nat.le_of_ble_eq_true rfl) (by omega) (Nat.le_of_ble_eq_true rfl) (Nat.le_refl _) (Nat.le_refl _) ?_
      refine g_pop dX7_likely_132 rfl ?_
      refine g_iinc (lv' := [(12, xI (((e + 1) : Nat) : Int)), _, _, _, _, _, _, _, _, _]) dX7_likely_133 (Nat.le_of_ble_eq_true rfl) rfl rfl ?_
      refine g_goto 90 dX7_likely_136 rfl ?_
      refine g_sub (lv2 := [(12, xI ((e + 1 : Nat) : Int)), _, _, _, _, _, _, _, _, _]) [0, 1, 2, 3, 4, 5, 6, 7, 8, 9] rfl ?_
      refine ih (e + 1) _ _ (by omega) (by first | exact hmy | (simp (disch := first | omega | assumption) only [x_up_o, x_up_k, x_cp_o, fr_S_X7_passes]; exact hmy)) ?_
      rw [IA_X7_likely_90_wt, IS_X7_likely_90] at kE
      simp only [if_neg c_105, if_true, if_false, if_pos rfl] at kE
      exact kE

theorem b_wt (p1 n1 x1 t1 : Int) (K : Nat) (sm wh : Int) (q : Nat) (hx : 0 ≤ x1 ∧ x1 ≤ 10) : ∀ (k e : Nat) (σ : xMi) (wt : Int) (W : Nat), 0 ≤ wt ∧ wt ≤ (W : Int) → 0 ≤ IA_X7_likely_90_wt p1 n1 x1 t1 K sm wh q k e σ wt ∧ IA_X7_likely_90_wt p1 n1 x1 t1 K sm wh q k e σ wt ≤ ((W * 10 ^ k : Nat) : Int) := by
  have h1 : x_wr x1 = x1 := x_wr_of (by omega) (by omega)
  have h2 : x_wr (10 - x1) = 10 - x1 := x_wr_of (by omega) (by omega)
  intro k
  induction k with
  | zero => intro e σ wt W h; simpa [IA_X7_likely_90_wt] using h
  | succ k ih =>
    intro e σ wt W h
    have key : ∀ y : Int, 0 ≤ y ∧ y ≤ 10 → 0 ≤ wt * y ∧ wt * y ≤ ((W * 10 : Nat) : Int) := by
      intro y hy
      refine ⟨Int.mul_nonneg h.1 hy.1, ?_⟩
      have := Int.mul_le_mul h.2 hy.2 hy.1 (by omega)
      rw [Int.natCast_mul]; exact this
    simp only [IA_X7_likely_90_wt]
    rw [show W * 10 ^ (k + 1) = (W * 10) * 10 ^ k by rw [Nat.pow_succ, Nat.mul_assoc, Nat.mul_comm 10]]
    (repeat' split) <;> first | (refine ih _ _ _ (W * 10) ?_; rw [h1]; exact key _ hx) | (refine ih _ _ _ (W * 10) ?_; rw [h2]; exact key _ (by omega))
theorem l_pow10 : ∀ e : Nat, e < 8 → 0 < (10 : Int) ^ e ∧ (10 : Int) ^ e ≤ 10000000 := by decide
def RV_X7_likely_72 (p1 : Int) (n1 : Int) (x1 : Int) (t1 : Int) (K : Nat) : Nat → Nat → xMi → Int → Int → Int
  | 0, q, σ, a, b2 => (if x_wr t1 = 0 then (x_divJ a (V_X7_common σ a b2)) else (x_divJ b2 (V_X7_common σ a b2)))
  | k + 1, q, σ, a, b2 => (if x_wr ((S_X7_goesOn (IS_X7_likely_90 p1 n1 x1 t1 K a b2 q n1.toNat 0 (S_X7_start σ ) 1) (60 - n1.toNat) K) 33 0 (p1.toNat)) = x_wr 1 then (RV_X7_likely_72 p1 n1 x1 t1 K k (q + 1) (S_X7_putBack (S_X7_goesOn (IS_X7_likely_90 p1 n1 x1 t1 K a b2 q n1.toNat 0 (S_X7_start σ ) 1) (60 - n1.toNat) K) ) (a + (IA_X7_likely_90_wt p1 n1 x1 t1 K a b2 q n1.toNat 0 (S_X7_start σ ) 1)) b2) else (RV_X7_likely_72 p1 n1 x1 t1 K k (q + 1) (S_X7_putBack (S_X7_goesOn (IS_X7_likely_90 p1 n1 x1 t1 K a b2 q n1.toNat 0 (S_X7_start σ ) 1) (60 - n1.toNat) K) ) (a + 0) b2))
def RS_X7_likely_72 (p1 : Int) (n1 : Int) (x1 : Int) (t1 : Int) (K : Nat) : Nat → Nat → xMi → Int → Int → xMi
  | 0, q, σ, a, b2 => (if x_wr t1 = 0 then σ else σ)
  | k + 1, q, σ, a, b2 => (if x_wr ((S_X7_goesOn (IS_X7_likely_90 p1 n1 x1 t1 K a b2 q n1.toNat 0 (S_X7_start σ ) 1) (60 - n1.toNat) K) 33 0 (p1.toNat)) = x_wr 1 then (RS_X7_likely_72 p1 n1 x1 t1 K k (q + 1) (S_X7_putBack (S_X7_goesOn (IS_X7_likely_90 p1 n1 x1 t1 K a b2 q n1.toNat 0 (S_X7_start σ ) 1) (60 - n1.toNat) K) ) (a + (IA_X7_likely_90_wt p1 n1 x1 t1 K a b2 q n1.toNat 0 (S_X7_start σ ) 1)) b2) else (RS_X7_likely_72 p1 n1 x1 t1 K k (q + 1) (S_X7_putBack (S_X7_goesOn (IS_X7_likely_90 p1 n1 x1 t1 K a b2 q n1.toNat 0 (S_X7_start σ ) 1) (60 - n1.toNat) K) ) (a + 0) b2))
theorem lh_X7_likely_72 (l : Launch) (n : Nat) (p1 : Int) (n1 : Int) (x1 : Int) (t1 : Int) (K : Nat) (hn : 154 ≤ n) (hK : K ≤ 6) (h1w : x_wr p1 = p1) (hnw : x_wr n1 = n1) (hxw : x_wr x1 = x1) : ∀ (k q : Nat) (σ : xMi) (a : Int) (b2 : Int), q + k = 2 ^ n1.toNat ∧ p1.toNat < 6 ∧ n1.toNat ≤ 7 ∧ 0 < b2 ∧ b2 ≤ 10000000 ∧ 0 ≤ a ∧ a ≤ 10000000 * (q : Int) ∧ q ≤ 128 ∧ 0 ≤ x1 ∧ x1 ≤ 10 → (σ 24 0 0 = (K : Int)) →  x_G l RX7 cX7_likely 13 (some .int) 4 n (some (xI (RV_X7_likely_72 p1 n1 x1 t1 K k q σ a b2))) (RS_X7_likely_72 p1 n1 x1 t1 K k q σ a b2) 72 [(9, xI (q : Int)), (5, xJ a), (7, xJ b2), (0, xR 24 0), (1, xI ((p1.toNat : Nat) : Int)), (2, xI ((n1.toNat : Nat) : Int)), (3, xI x1), (4, xI t1)] [] σ := by
  intro k
  induction k with
  | zero =>
    intro q σ a b2 hk hmy
    have hP6 : p1.toNat < 6 := hk.2.1
    refine g_iload dX7_likely_72 rfl ?_
    refine g_iconst dX7_likely_74 ?_
    refine g_iload_n dX7_likely_75 rfl ?_
    refine g_ishl dX7_likely_76 ?_
    refine g_cmp_ge 179 dX7_likely_77 rfl (fun c_77 => ?_) (fun c_77 => absurd (by have h2 : 2 ^ n1.toNat ≤ 2 ^ 7 := Nat.pow_le_pow_right (by decide) (by omega); rw [x_shl1 _ (by omega), x_nat (by omega)]; omega) c_77)
    refine g_lload dX7_likely_179 rfl ?_
    have hpc := p_common a b2 b2.toNat σ a b2 (by omega)
    refine g_lload dX7_likely_181 rfl ?_
    refine f_S dX7_likely_183 cs_X7_246 mb_X7_common (c_X7_common l n _ a b2 hn (by omega)) rfl (Nat.lt_of_lt_of_le (by decide) hn) rfl (Nat.le_of_ble_eq_true rfl) (by decide) (Nat.le_of_ble_eq_true rfl) (Nat.le_refl _) (Nat.le_refl _) ?_
    refine g_lstore (lv' := [_, _, _, _, _, _, _, _]) dX7_likely_186 (Nat.le_of_ble_eq_true rfl) rfl ?_
    refine g_iload dX7_likely_188 rfl ?_
    refine g_if_ne 201 dX7_likely_190 rfl (fun c_190 => ?_) (fun c_190 => ?_)
    · refine g_lload dX7_likely_201 rfl ?_
      refine g_lload dX7_likely_203 rfl ?_
      refine g_ldiv dX7_likely_205 (by have h9 := l_wrJ (b := (V_X7_common σ a b2).toNat) (by unfold V_X7_common; omega); rw [show (((V_X7_common σ a b2).toNat : Nat) : Int) = V_X7_common σ a b2 by unfold V_X7_common; omega] at h9; rw [h9]; unfold V_X7_common; omega) ?_
      refine g_l2i dX7_likely_206 ?_
      exact f_iret dX7_likely_207 (by rw [RV_X7_likely_72, if_neg c_190]) (by rw [RS_X7_likely_72, if_neg c_190])
    · refine g_lload dX7_likely_193 rfl ?_
      refine g_lload dX7_likely_195 rfl ?_
      refine g_ldiv dX7_likely_197 (by have h9 := l_wrJ (b := (V_X7_common σ a b2).toNat) (by unfold V_X7_common; omega); rw [show (((V_X7_common σ a b2).toNat : Nat) : Int) = V_X7_common σ a b2 by unfold V_X7_common; omega] at h9; rw [h9]; unfold V_X7_common; omega) ?_
      refine g_goto 206 dX7_likely_198 rfl ?_
      refine g_l2i dX7_likely_206 ?_
      exact f_iret dX7_likely_207 (by rw [RV_X7_likely_72, if_pos c_190]) (by rw [RS_X7_likely_72, if_pos c_190])
  | succ k ih =>
    intro q σ a b2 hk hmy
    have hP6 : p1.toNat < 6 := hk.2.1
    refine g_iload dX7_likely_72 rfl ?_
    refine g_iconst dX7_likely_74 ?_
    refine g_iload_n dX7_likely_75 rfl ?_
    refine g_ishl dX7_likely_76 ?_
    refine g_cmp_ge 179 dX7_likely_77 rfl (fun c_77 => absurd c_77 (by have h2 : 2 ^ n1.toNat ≤ 2 ^ 7 := Nat.pow_le_pow_right (by decide) (by omega); rw [x_shl1 _ (by omega), x_nat (by omega)]; omega)) (fun c_77 => ?_)
    refine g_lconst (a := 1) dX7_likely_80 (by decide) ?_
    refine g_lstore (lv' := [_, _, _, _, _, _, _, _, _]) dX7_likely_81 (Nat.le_of_ble_eq_true rfl) rfl ?_
    refine g_aload_n dX7_likely_83 rfl ?_
    refine f_Vv dX7_likely_84 cs_X7_201 mb_X7_start (c_X7_start l n _  hn) rfl (x_vM hn (Nat.le_of_ble_eq_true rfl) (Nat.le_of_ble_eq_true rfl)) rfl rfl rfl (Nat.le_of_ble_eq_true rfl) (by decide) (Nat.le_of_ble_eq_true rfl) (Nat.le_refl _) (Nat.le_refl _) ?_
    refine g_iconst dX7_likely_87 ?_
    refine g_istore (lv' := [_, _, _, _, _, _, _, _, _, _]) dX7_likely_88 (Nat.le_of_ble_eq_true rfl) rfl ?_
    refine g_sub (lv2 := [(12, xI ((0 : Nat) : Int)), _, _, _, _, _, _, _, _, _]) [0, 1, 5, 6, 7, 8, 9, 3, 4, 2] rfl ?_
    refine sl_X7_likely_90 l n p1 n1 x1 t1 K a b2 q hn hK (by omega) (by decide) n1.toNat 0 _ _ (by omega) (by first | exact hmy | (simp (disch := first | omega | assumption) only [x_up_o, x_up_k, x_cp_o, fr_S_X7_start]; exact hmy)) ?_
    refine g_aload_n dX7_likely_139 rfl ?_
    refine g_bipush dX7_likely_140 (by decide) ?_
    refine g_iload_n dX7_likely_142 rfl ?_
    refine g_isub dX7_likely_143 ?_
    refine g_eqI ((60 - n1.toNat : Nat) : Int) (by omega) ?_
    refine f_V dX7_likely_144 cs_X7_194 mb_X7_goesOn (c_X7_goesOn l n _ (60 - n1.toNat) K hn (by omega) hK (by first | exact hmy | (simp (disch := first | omega | assumption) only [x_up_o, x_up_k, x_cp_o, fr_IS_X7_likely_90, fr_S_X7_start]; exact hmy))) rfl (x_vM hn (Nat.le_of_ble_eq_true rfl) (Nat.le_of_ble_eq_true rfl)) rfl rfl rfl (Nat.le_of_ble_eq_true rfl) (by decide) (Nat.le_of_ble_eq_true rfl) (Nat.le_refl _) (Nat.le_refl _) ?_
    refine g_pop dX7_likely_147 rfl ?_
    refine g_lload dX7_likely_148 rfl ?_
    refine g_aload_n dX7_likely_150 rfl ?_
    refine g_getR (t2 := 33) (i2 := 0) dX7_likely_151 fl_X7_34 (x_vM hn (Nat.le_of_ble_eq_true rfl) (Nat.le_of_ble_eq_true rfl)) rfl rfl rfl ?_
    refine g_iload_n dX7_likely_154 rfl ?_
    refine g_iald (p1.toNat) dX7_likely_155 rfl hP6 (x_vM hn (Nat.le_of_ble_eq_true rfl) (Nat.le_of_ble_eq_true rfl)) rfl ?_
    refine g_iconst dX7_likely_156 ?_
    refine g_cmp_ne 165 dX7_likely_157 rfl (fun c_157 => ?_) (fun c_157 => ?_)
    · refine g_lconst (a := 0) dX7_likely_165 (by decide) ?_
      refine g_ladd dX7_likely_166 ?_
      refine g_lstore (lv' := [_, _, _, _, _, _, _, _, _]) dX7_likely_167 (Nat.le_of_ble_eq_true rfl) rfl ?_
      refine g_aload_n dX7_likely_169 rfl ?_
      refine f_Vv dX7_likely_170 cs_X7_213 mb_X7_putBack (c_X7_putBack l n _  hn) rfl (x_vM hn (Nat.le_of_ble_eq_true rfl) (Nat.le_of_ble_eq_true rfl)) rfl rfl rfl (Nat.le_of_ble_eq_true rfl) (by decide) (Nat.le_of_ble_eq_true rfl) (Nat.le_refl _) (Nat.le_refl _) ?_
      have hw := b_wt p1 n1 x1 t1 K a b2 q (by omega) n1.toNat 0 (S_X7_start σ) 1 1 (by omega)
      have hw2 : 1 * 10 ^ n1.toNat ≤ 10000000 := by rw [Nat.one_mul]; exact Nat.pow_le_pow_right (by decide) (show n1.toNat ≤ 7 by omega)
      have hw3 : 2 ^ n1.toNat ≤ 128 := Nat.pow_le_pow_right (by decide) (show n1.toNat ≤ 7 by omega)
      refine g_iinc (lv' := [(9, xI (((q + 1) : Nat) : Int)), _, _, _, _, _, _, _, _]) dX7_likely_173 (Nat.le_of_ble_eq_true rfl) rfl rfl ?_
      refine g_goto 72 dX7_likely_176 rfl ?_
      refine g_sub (lv2 := [(9, xI (((q + 1) : Nat) : Int)), _, _, _, _, _, _, _]) [0, 1, 8, 3, 4, 5, 6, 7] rfl ?_
      exact f_cv (by rw [RV_X7_likely_72, if_neg c_157]) (by rw [RS_X7_likely_72, if_neg c_157]) (ih (q + 1) _ _ _ (by omega) (by first | exact hmy | (simp (disch := omega) only [x_up_o, x_up_k, x_cp_o, fr_IS_X7_likely_90, fr_S_X7_goesOn, fr_S_X7_putBack, fr_S_X7_start]; exact hmy) | (simp (disch := first | omega | assumption) only [x_up_o, x_up_k, x_cp_o, fr_IS_X7_likely_90, fr_S_X7_goesOn, fr_S_X7_putBack, fr_S_X7_start]; exact hmy)))
    · refine g_lload dX7_likely_160 rfl ?_
      refine g_goto 166 dX7_likely_162 rfl ?_
      refine g_ladd dX7_likely_166 ?_
      refine g_lstore (lv' := [_, _, _, _, _, _, _, _, _]) dX7_likely_167 (Nat.le_of_ble_eq_true rfl) rfl ?_
      refine g_aload_n dX7_likely_169 rfl ?_
      refine f_Vv dX7_likely_170 cs_X7_213 mb_X7_putBack (c_X7_putBack l n _  hn) rfl (x_vM hn (Nat.le_of_ble_eq_true rfl) (Nat.le_of_ble_eq_true rfl)) rfl rfl rfl (Nat.le_of_ble_eq_true rfl) (by decide) (Nat.le_of_ble_eq_true rfl) (Nat.le_refl _) (Nat.le_refl _) ?_
      have hw := b_wt p1 n1 x1 t1 K a b2 q (by omega) n1.toNat 0 (S_X7_start σ) 1 1 (by omega)
      have hw2 : 1 * 10 ^ n1.toNat ≤ 10000000 := by rw [Nat.one_mul]; exact Nat.pow_le_pow_right (by decide) (show n1.toNat ≤ 7 by omega)
      have hw3 : 2 ^ n1.toNat ≤ 128 := Nat.pow_le_pow_right (by decide) (show n1.toNat ≤ 7 by omega)
      refine g_iinc (lv' := [(9, xI (((q + 1) : Nat) : Int)), _, _, _, _, _, _, _, _]) dX7_likely_173 (Nat.le_of_ble_eq_true rfl) rfl rfl ?_
      refine g_goto 72 dX7_likely_176 rfl ?_
      refine g_sub (lv2 := [(9, xI (((q + 1) : Nat) : Int)), _, _, _, _, _, _, _]) [0, 1, 8, 3, 4, 5, 6, 7] rfl ?_
      exact f_cv (by rw [RV_X7_likely_72, if_pos c_157]) (by rw [RS_X7_likely_72, if_pos c_157]) (ih (q + 1) _ _ _ (by omega) (by first | exact hmy | (simp (disch := omega) only [x_up_o, x_up_k, x_cp_o, fr_IS_X7_likely_90, fr_S_X7_goesOn, fr_S_X7_putBack, fr_S_X7_start]; exact hmy) | (simp (disch := first | omega | assumption) only [x_up_o, x_up_k, x_cp_o, fr_IS_X7_likely_90, fr_S_X7_goesOn, fr_S_X7_putBack, fr_S_X7_start]; exact hmy)))
def RV_X7_likely_49 (p1 : Int) (n1 : Int) (x1 : Int) (t1 : Int) (K : Nat) : Nat → Nat → xMi → Int → Int → Int
  | 0, e, σ, a, b2 => (RV_X7_likely_72 p1 n1 x1 t1 K (2 ^ n1.toNat) 0 σ a b2)
  | k + 1, e, σ, a, b2 => (RV_X7_likely_49 p1 n1 x1 t1 K k (e + 1) σ a (b2 * 10))
def RS_X7_likely_49 (p1 : Int) (n1 : Int) (x1 : Int) (t1 : Int) (K : Nat) : Nat → Nat → xMi → Int → Int → xMi
  | 0, e, σ, a, b2 => (RS_X7_likely_72 p1 n1 x1 t1 K (2 ^ n1.toNat) 0 σ a b2)
  | k + 1, e, σ, a, b2 => (RS_X7_likely_49 p1 n1 x1 t1 K k (e + 1) σ a (b2 * 10))
theorem lh_X7_likely_49 (l : Launch) (n : Nat) (p1 : Int) (n1 : Int) (x1 : Int) (t1 : Int) (K : Nat) (hn : 154 ≤ n) (hK : K ≤ 6) (h1w : x_wr p1 = p1) (hnw : x_wr n1 = n1) (hxw : x_wr x1 = x1) : ∀ (k e : Nat) (σ : xMi) (a : Int) (b2 : Int), e + k = n1.toNat ∧ p1.toNat < 6 ∧ n1.toNat ≤ 7 ∧ b2 = (10 : Int) ^ e ∧ a = 0 ∧ 0 ≤ x1 ∧ x1 ≤ 10 → (σ 24 0 0 = (K : Int)) →  x_G l RX7 cX7_likely 13 (some .int) 4 n (some (xI (RV_X7_likely_49 p1 n1 x1 t1 K k e σ a b2))) (RS_X7_likely_49 p1 n1 x1 t1 K k e σ a b2) 49 [(9, xI (e : Int)), (5, xJ a), (7, xJ b2), (0, xR 24 0), (1, xI ((p1.toNat : Nat) : Int)), (2, xI ((n1.toNat : Nat) : Int)), (3, xI x1), (4, xI t1)] [] σ := by
  intro k
  induction k with
  | zero =>
    intro e σ a b2 hk hmy
    have hP6 : p1.toNat < 6 := hk.2.1
    refine g_iload dX7_likely_49 rfl ?_
    refine g_iload_n dX7_likely_51 rfl ?_
    refine g_cmp_ge 69 dX7_likely_52 rfl (fun c_52 => ?_) (fun c_52 => absurd (by rw [x_nat (by omega), x_nat (by omega)]; omega) c_52)
    refine g_iconst dX7_likely_69 ?_
    refine g_istore (lv' := [_, _, _, _, _, _, _, _]) dX7_likely_70 (Nat.le_of_ble_eq_true rfl) rfl ?_
    refine g_sub (lv2 := [(9, xI ((0 : Nat) : Int)), _, _, _, _, _, _, _]) [0, 1, 2, 3, 4, 5, 6, 7] rfl ?_
    exact f_cv rfl rfl (lh_X7_likely_72 l n p1 n1 x1 t1 K hn hK h1w hnw hxw (2 ^ n1.toNat) 0 _ _ _ (by have h7 := l_pow10 e (by omega); rw [← hk.2.2.2.1] at h7; exact ⟨Nat.zero_add _, by omega, by omega, by omega, by omega, by omega, by omega, by omega, by omega, by omega⟩) hmy)
  | succ k ih =>
    intro e σ a b2 hk hmy
    have hP6 : p1.toNat < 6 := hk.2.1
    refine g_iload dX7_likely_49 rfl ?_
    refine g_iload_n dX7_likely_51 rfl ?_
    refine g_cmp_ge 69 dX7_likely_52 rfl (fun c_52 => absurd c_52 (by rw [x_nat (by omega), x_nat (by omega)]; omega)) (fun c_52 => ?_)
    refine g_lload dX7_likely_55 rfl ?_
    refine g_ldc2 (a := 10) dX7_likely_57 ct_X7_241 (by decide) ?_
    refine g_lmul dX7_likely_60 ?_
    refine g_lstore (lv' := [_, _, _, _, _, _, _, _]) dX7_likely_61 (Nat.le_of_ble_eq_true rfl) rfl ?_
    refine g_iinc (lv' := [(9, xI (((e + 1) : Nat) : Int)), _, _, _, _, _, _, _]) dX7_likely_63 (Nat.le_of_ble_eq_true rfl) rfl rfl ?_
    refine g_goto 49 dX7_likely_66 rfl ?_
    refine g_sub (lv2 := [(9, xI (((e + 1) : Nat) : Int)), _, _, _, _, _, _, _]) [0, 2, 1, 3, 4, 5, 6, 7] rfl ?_
    exact f_cv rfl rfl (ih (e + 1) _ _ _ (by refine ⟨by omega, by omega, by omega, ?_, by omega, by omega, by omega⟩; rw [hk.2.2.2.1, Int.pow_succ]) hmy)
def V_X7_likely (σ : xMi) (p1 : Int) (n1 : Int) (x1 : Int) (t1 : Int) (K : Nat) : Int := (if x_wr (V_X7_isOne σ p1) = 0 then (-1) else (if x_wr (V_X7_in σ n1 0 7) = 0 then (-1) else (if x_wr (V_X7_in σ x1 0 10) = 0 then (-1) else (if x_wr (V_X7_in σ t1 0 1) = 0 then (-1) else (RV_X7_likely_49 p1 n1 x1 t1 K n1.toNat 0 σ 0 1)))))
def S_X7_likely (σ : xMi) (p1 : Int) (n1 : Int) (x1 : Int) (t1 : Int) (K : Nat) : xMi := (if x_wr (V_X7_isOne σ p1) = 0 then σ else (if x_wr (V_X7_in σ n1 0 7) = 0 then σ else (if x_wr (V_X7_in σ x1 0 10) = 0 then σ else (if x_wr (V_X7_in σ t1 0 1) = 0 then σ else (RS_X7_likely_49 p1 n1 x1 t1 K n1.toNat 0 σ 0 1)))))
theorem c_X7_likely (l : Launch) (n : Nat) (σ : xMi) (p1 : Int) (n1 : Int) (x1 : Int) (t1 : Int) (K : Nat) (hn : 154 ≤ n) (hK : K ≤ 6) (h1w : x_wr p1 = p1) (hnw : x_wr n1 = n1) (hxw : x_wr x1 = x1) (hmy : σ 24 0 0 = (K : Int)) : x_F l yX7_likely RX7 cX7_likely 13 (some .int) 4 n σ [xR 24 0, xI p1, xI n1, xI x1, xI t1] (some (xI (V_X7_likely σ p1 n1 x1 t1 K))) (S_X7_likely σ p1 n1 x1 t1 K) := by
  refine f_of (by decide) rfl (Nat.le_of_ble_eq_true rfl) rfl ?_
  refine g_aload_n dX7_likely_0 rfl ?_
  refine g_iload_n dX7_likely_1 rfl ?_
  refine f_V dX7_likely_2 cs_X7_162 mb_X7_isOne (c_X7_isOne l n _ p1 hn) rfl (x_vM hn (Nat.le_of_ble_eq_true rfl) (Nat.le_of_ble_eq_true rfl)) rfl rfl rfl (Nat.le_of_ble_eq_true rfl) (by decide) (Nat.le_of_ble_eq_true rfl) (Nat.le_refl _) (Nat.le_refl _) ?_
  refine g_if_eq 38 dX7_likely_5 rfl (fun c_5 => ?_) (fun c_5 => ?_)
  · refine g_iconst dX7_likely_38 ?_
    exact f_iret dX7_likely_39 (by rw [V_X7_likely, if_pos c_5]) (by rw [S_X7_likely, if_pos c_5])
  · refine g_iload_n dX7_likely_8 rfl ?_
    refine g_iconst dX7_likely_9 ?_
    refine g_bipush dX7_likely_10 (by decide) ?_
    refine f_S dX7_likely_12 cs_X7_100 mb_X7_in (c_X7_in l n _ n1 0 7 hn) rfl (Nat.lt_of_lt_of_le (by decide) hn) rfl (Nat.le_of_ble_eq_true rfl) (by decide) (Nat.le_of_ble_eq_true rfl) (Nat.le_refl _) (Nat.le_refl _) ?_
    refine g_if_eq 38 dX7_likely_15 rfl (fun c_15 => ?_) (fun c_15 => ?_)
    · refine g_iconst dX7_likely_38 ?_
      exact f_iret dX7_likely_39 (by rw [V_X7_likely, if_neg c_5, if_pos c_15]) (by rw [S_X7_likely, if_neg c_5, if_pos c_15])
    · refine g_iload_n dX7_likely_18 rfl ?_
      refine g_iconst dX7_likely_19 ?_
      refine g_bipush dX7_likely_20 (by decide) ?_
      refine f_S dX7_likely_22 cs_X7_100 mb_X7_in (c_X7_in l n _ x1 0 10 hn) rfl (Nat.lt_of_lt_of_le (by decide) hn) rfl (Nat.le_of_ble_eq_true rfl) (by decide) (Nat.le_of_ble_eq_true rfl) (Nat.le_refl _) (Nat.le_refl _) ?_
      refine g_if_eq 38 dX7_likely_25 rfl (fun c_25 => ?_) (fun c_25 => ?_)
      · refine g_iconst dX7_likely_38 ?_
        exact f_iret dX7_likely_39 (by rw [V_X7_likely, if_neg c_5, if_neg c_15, if_pos c_25]) (by rw [S_X7_likely, if_neg c_5, if_neg c_15, if_pos c_25])
      · refine g_iload dX7_likely_28 rfl ?_
        refine g_iconst dX7_likely_30 ?_
        refine g_iconst dX7_likely_31 ?_
        refine f_S dX7_likely_32 cs_X7_100 mb_X7_in (c_X7_in l n _ t1 0 1 hn) rfl (Nat.lt_of_lt_of_le (by decide) hn) rfl (Nat.le_of_ble_eq_true rfl) (by decide) (Nat.le_of_ble_eq_true rfl) (Nat.le_refl _) (Nat.le_refl _) ?_
        refine g_if_ne 40 dX7_likely_35 rfl (fun c_35 => ?_) (fun c_35 => ?_)
        · have hP := l_isOne h1w hK hmy c_5
          have hP6 := hP.2.2
          refine g_lveq (lv2 := [(0, xR 24 0), (1, xI ((p1.toNat : Nat) : Int)), (2, xI n1), (3, xI x1), (4, xI t1)]) (by rw [← hP.1] <;> rfl) ?_
          have hN : n1 = ((n1.toNat : Nat) : Int) ∧ n1.toNat ≤ 7 := by have h9 := l_in hnw c_15; rw [show x_wr 0 = 0 from by decide, show x_wr 7 = 7 from by decide] at h9; omega
          refine g_lveq (lv2 := [(0, xR 24 0), (1, xI ((p1.toNat : Nat) : Int)), (2, xI ((n1.toNat : Nat) : Int)), (3, xI x1), (4, xI t1)]) (by rw [← hN.1] <;> rfl) ?_
          have hx1 : 0 ≤ x1 ∧ x1 ≤ 10 := by have h9 := l_in hxw c_25; rw [show x_wr 0 = 0 from by decide, show x_wr 10 = 10 from by decide] at h9; exact h9
          refine g_lconst (a := 0) dX7_likely_40 (by decide) ?_
          refine g_lstore (lv' := [_, _, _, _, _, _]) dX7_likely_41 (Nat.le_of_ble_eq_true rfl) rfl ?_
          refine g_lconst (a := 1) dX7_likely_43 (by decide) ?_
          refine g_lstore (lv' := [_, _, _, _, _, _, _]) dX7_likely_44 (Nat.le_of_ble_eq_true rfl) rfl ?_
          refine g_iconst dX7_likely_46 ?_
          refine g_istore (lv' := [_, _, _, _, _, _, _, _]) dX7_likely_47 (Nat.le_of_ble_eq_true rfl) rfl ?_
          refine g_sub (lv2 := [(9, xI ((0 : Nat) : Int)), _, _, _, _, _, _, _]) [0, 2, 1, 3, 4, 5, 6, 7] rfl ?_
          exact f_cv (by rw [V_X7_likely, if_neg c_5, if_neg c_15, if_neg c_25, if_neg c_35]) (by rw [S_X7_likely, if_neg c_5, if_neg c_15, if_neg c_25, if_neg c_35]) (lh_X7_likely_49 l n p1 n1 x1 t1 K hn hK h1w hnw hxw n1.toNat 0 _ _ _ (by refine ⟨by omega, hP6, by omega, by simp, rfl, hx1.1, hx1.2⟩) hmy)
        · refine g_iconst dX7_likely_38 ?_
          exact f_iret dX7_likely_39 (by rw [V_X7_likely, if_neg c_5, if_neg c_15, if_neg c_25, if_pos c_35]) (by rw [S_X7_likely, if_neg c_5, if_neg c_15, if_neg c_25, if_pos c_35])
