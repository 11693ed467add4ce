theorem x_r20 {k : Nat} (h : k < 7) : x_r0 20 0 k = some (0, 13 + k) := by simp [x_r0, h]
theorem x_rof0 {f : Nat} (h : f ≠ 2) : x_rof f = 0 := if_neg h
theorem g_lveq {l : Launch} {own : String} {cc : ByteArray} {nL : Nat} {ret : Option FieldType} {ini : xB} {d mc ms : Nat} {Q : xP} {n cu su pc : Nat} {lv lv2 : List (Nat × xV)} {st : List xV} {ρ : xMr} {σ : xMi} (h : lv = lv2) (kk : xGo l own cc nL ret ini d mc ms Q n cu su pc lv2 st ρ σ) : xGo l own cc nL ret ini d mc ms Q n cu su pc lv st ρ σ := by
  subst h; exact kk
def RS_X1_extend_52 (dp : Nat) (b : Int) (m : Nat) (K : Nat) (G : (Int → xMi → xMi)) : Nat → Nat → xMi → xMi
  | 0, p, σ => σ
  | k + 1, p, σ => (if x_wr (x_and (x_shr b (p : Int)) 1) = 0 then (RS_X1_extend_52 dp b m K G k (p + 1) σ ) else (if x_wr (V_X0_canSendNow (S_X0_copyFrom σ (14 + dp) (13 + dp)) (14 + dp) p) = 0 then (if x_wr ((S_X0_passDay (S_X0_copyFrom σ (14 + dp) (13 + dp)) (14 + dp) 0 K) 0 (14 + dp) 9) ≤ 0 then (if x_wr (V_X0_finalWeight (S_X0_passDay (S_X0_copyFrom σ (14 + dp) (13 + dp)) (14 + dp) 0 K) (14 + dp) 0 K) ≤ x_wr ((S_X0_passDay (S_X0_copyFrom σ (14 + dp) (13 + dp)) (14 + dp) 0 K) 19 0 4) then (RS_X1_extend_52 dp b m K G k (p + 1) (S_X0_passDay (S_X0_copyFrom σ (14 + dp) (13 + dp)) (14 + dp) 0 K) ) else (RS_X1_extend_52 dp b m K G k (p + 1) (G (x_and b (x_xor (x_shl 1 (p : Int)) (-1))) (x_up (S_X0_passDay (S_X0_copyFrom σ (14 + dp) (13 + dp)) (14 + dp) 0 K) 21 0 dp (p : Int))) )) else (if x_wr (V_X0_finalWeight (S_X0_passDay (S_X0_copyFrom σ (14 + dp) (13 + dp)) (14 + dp) 0 K) (14 + dp) (x_and b (x_xor (x_shl 1 (p : Int)) (-1))) K) ≤ x_wr ((S_X0_passDay (S_X0_copyFrom σ (14 + dp) (13 + dp)) (14 + dp) 0 K) 19 0 4) then (RS_X1_extend_52 dp b m K G k (p + 1) (S_X0_passDay (S_X0_copyFrom σ (14 + dp) (13 + dp)) (14 + dp) 0 K) ) else (RS_X1_extend_52 dp b m K G k (p + 1) (G (x_and b (x_xor (x_shl 1 (p : Int)) (-1))) (x_up (S_X0_passDay (S_X0_copyFrom σ (14 + dp) (13 + dp)) (14 + dp) 0 K) 21 0 dp (p : Int))) ))) else (if x_wr ((S_X0_passDay (S_X0_dispatch (S_X0_copyFrom σ (14 + dp) (13 + dp)) (14 + dp) p) (14 + dp) 0 K) 0 (14 + dp) 9) ≤ 0 then (if x_wr (V_X0_finalWeight (S_X0_passDay (S_X0_dispatch (S_X0_copyFrom σ (14 + dp) (13 + dp)) (14 + dp) p) (14 + dp) 0 K) (14 + dp) 0 K) ≤ x_wr ((S_X0_passDay (S_X0_dispatch (S_X0_copyFrom σ (14 + dp) (13 + dp)) (14 + dp) p) (14 + dp) 0 K) 19 0 4) then (RS_X1_extend_52 dp b m K G k (p + 1) (S_X0_passDay (S_X0_dispatch (S_X0_copyFrom σ (14 + dp) (13 + dp)) (14 + dp) p) (14 + dp) 0 K) ) else (RS_X1_extend_52 dp b m K G k (p + 1) (G (x_and b (x_xor (x_shl 1 (p : Int)) (-1))) (x_up (S_X0_passDay (S_X0_dispatch (S_X0_copyFrom σ (14 + dp) (13 + dp)) (14 + dp) p) (14 + dp) 0 K) 21 0 dp (p : Int))) )) else (if x_wr (V_X0_finalWeight (S_X0_passDay (S_X0_dispatch (S_X0_copyFrom σ (14 + dp) (13 + dp)) (14 + dp) p) (14 + dp) 0 K) (14 + dp) (x_and b (x_xor (x_shl 1 (p : Int)) (-1))) K) ≤ x_wr ((S_X0_passDay (S_X0_dispatch (S_X0_copyFrom σ (14 + dp) (13 + dp)) (14 + dp) p) (14 + dp) 0 K) 19 0 4) then (RS_X1_extend_52 dp b m K G k (p + 1) (S_X0_passDay (S_X0_dispatch (S_X0_copyFrom σ (14 + dp) (13 + dp)) (14 + dp) p) (14 + dp) 0 K) ) else (RS_X1_extend_52 dp b m K G k (p + 1) (G (x_and b (x_xor (x_shl 1 (p : Int)) (-1))) (x_up (S_X0_passDay (S_X0_dispatch (S_X0_copyFrom σ (14 + dp) (13 + dp)) (14 + dp) p) (14 + dp) 0 K) 21 0 dp (p : Int))) )))))
theorem lh_X1_extend_52 (l : Launch) (n : Nat) (dp : Nat) (b : Int) (m : Nat) (K : Nat) (G : (Int → xMi → xMi)) (hn : 131 ≤ n) (hdp : dp ≤ 1000000) (hK : K ≤ 6) (hd6 : dp ≤ 6) (hG : ∀ {t i k : Nat} (h : ¬ (t = 19 ∨ t = 21 ∨ t = 22 ∨ (t ≤ 4 ∧ 15 + dp ≤ i))) (b : Int) (σ : xMi), G b σ t i k = σ t i k) (hC : dp < 6 → ∀ (b : Int) (σ : xMi), σ 5 0 4 = (K : Int) → x_F l yX1_extend RX1 cX1_extend 6 none (m + 8) n σ [xR 19 0, xI ((dp + 1 : Nat) : Int), xI b] none (G b σ)) : ∀ (k p : Nat) (σ : xMi) , p + k = 6 ∧ dp < 6 → (σ 5 0 4 = (K : Int)) →  x_G l RX1 cX1_extend 6 none (m + 9) n none (RS_X1_extend_52 dp b m K G k p σ ) 52 [(4, xI (p : Int)), (0, xR 19 0), (1, xI (dp : Int)), (2, xI b), (3, xR 0 (14 + dp))] [] σ := by
  intro k
  induction k with
  | zero =>
    intro p σ  hk hsz
    refine g_iload dX1_extend_52 rfl ?_
    refine g_bipush dX1_extend_54 (by decide) ?_
    refine g_cmp_ge 158 dX1_extend_56 rfl (fun c_56 => ?_) (fun c_56 => absurd (by rw [show x_wr 6 = 6 from by decide, x_nat (by omega)]; omega) c_56)
    exact f_vret dX1_extend_158 rfl rfl
  | succ k ih =>
    intro p σ  hk hsz
    have hp : p < 6 := by omega
    have hd5 : dp < 6 := by omega
    refine g_iload dX1_extend_52 rfl ?_
    refine g_bipush dX1_extend_54 (by decide) ?_
    refine g_cmp_ge 158 dX1_extend_56 rfl (fun c_56 => absurd c_56 (by rw [show x_wr 6 = 6 from by decide, x_nat (by omega)]; omega)) (fun c_56 => ?_)
    refine g_iload_n dX1_extend_59 rfl ?_
    refine g_iload dX1_extend_60 rfl ?_
    refine g_ishr dX1_extend_62 ?_
    refine g_iconst dX1_extend_63 ?_
    refine g_iand dX1_extend_64 ?_
    refine g_if_ne 71 dX1_extend_65 rfl (fun c_65 => ?_) (fun c_65 => ?_)
    · refine g_aload_n dX1_extend_71 rfl ?_
      refine g_aload_n dX1_extend_72 rfl ?_
      refine g_getR (t2 := 20) (i2 := 0) dX1_extend_73 fl_X1_11 (x_vC hn (Nat.le_of_ble_eq_true rfl) (Nat.le_of_ble_eq_true rfl)) rfl rfl rfl ?_
      refine g_iload_n dX1_extend_76 rfl ?_
      refine g_aald (t2 := 0) (i2 := (13 + dp)) dp dX1_extend_77 rfl (Nat.lt_succ_of_lt hd5) (x_vC hn (Nat.le_of_ble_eq_true rfl) (Nat.le_of_ble_eq_true rfl)) rfl (x_r20 (by omega)) ?_
      refine f_Vv dX1_extend_78 cs_X1_34 mb_X0_copyFrom (c_X0_copyFrom l n _ (14 + dp) (13 + dp) hn (show 14 + dp < 20 by omega) (show 13 + dp < 20 by omega)) rfl (x_vC hn (Nat.le_of_ble_eq_true rfl) (show 14 + dp < 20 by omega)) rfl rfl rfl (Nat.le_of_ble_eq_true rfl) (by omega) (Nat.le_of_ble_eq_true rfl) (Nat.le_refl _) (Nat.le_refl _) ?_
      refine g_aload_n dX1_extend_81 rfl ?_
      refine g_iload dX1_extend_82 rfl ?_
      refine f_V dX1_extend_84 cs_X1_71 mb_X0_canSendNow (c_X0_canSendNow l n _ (14 + dp) p hn (show 14 + dp < 20 by omega) hp) rfl (x_vC hn (Nat.le_of_ble_eq_true rfl) (show 14 + dp < 20 by omega)) rfl rfl rfl (Nat.le_of_ble_eq_true rfl) (by omega) (Nat.le_of_ble_eq_true rfl) (Nat.le_refl _) (Nat.le_refl _) ?_
      refine g_if_eq 96 dX1_extend_87 rfl (fun c_87 => ?_) (fun c_87 => ?_)
      · refine g_aload_n dX1_extend_96 rfl ?_
        refine g_iconst dX1_extend_97 ?_
        refine f_Vv dX1_extend_98 cs_X1_78 mb_X0_passDay (c_X0_passDay l n _ (14 + dp) 0 K hn (show 14 + dp < 20 by omega) hK (by rw [x_rof0 (by omega)]; first | exact hsz | (simp (disch := first | omega | assumption) only [x_up_o, x_cp_o, fr_S_X0_copyFrom]; exact hsz))) rfl (x_vC hn (Nat.le_of_ble_eq_true rfl) (show 14 + dp < 20 by omega)) rfl rfl rfl (Nat.le_of_ble_eq_true rfl) (by omega) (Nat.le_of_ble_eq_true rfl) (Nat.le_refl _) (Nat.le_refl _) ?_
        refine g_iload_n dX1_extend_101 rfl ?_
        refine g_iconst dX1_extend_102 ?_
        refine g_iload dX1_extend_103 rfl ?_
        refine g_ishl dX1_extend_105 ?_
        refine g_iconst dX1_extend_106 ?_
        refine g_ixor dX1_extend_107 ?_
        refine g_iand dX1_extend_108 ?_
        refine g_istore (lv' := [_, _, _, _, _, _]) dX1_extend_109 (Nat.le_of_ble_eq_true rfl) rfl ?_
        refine g_aload_n dX1_extend_111 rfl ?_
        refine g_aload_n dX1_extend_112 rfl ?_
        refine g_getI dX1_extend_113 fl_X1_38 (x_vC hn (Nat.le_of_ble_eq_true rfl) (show 14 + dp < 20 by omega)) rfl rfl ?_
        refine g_if_le 124 dX1_extend_116 rfl (fun c_116 => ?_) (fun c_116 => ?_)
        · refine g_iconst dX1_extend_124 ?_
          refine f_V dX1_extend_125 cs_X1_62 mb_X0_finalWeight (c_X0_finalWeight l n _ (14 + dp) 0 K hn (show 14 + dp < 20 by omega) hK (by rw [x_rof0 (by omega)]; first | exact hsz | (simp (disch := first | omega | assumption) only [x_up_o, x_cp_o, fr_S_X0_copyFrom, fr_S_X0_passDay]; exact hsz))) rfl (x_vC hn (Nat.le_of_ble_eq_true rfl) (show 14 + dp < 20 by omega)) rfl rfl rfl (Nat.le_of_ble_eq_true rfl) (by omega) (Nat.le_of_ble_eq_true rfl) (Nat.le_refl _) (Nat.le_refl _) ?_
          refine g_aload_n dX1_extend_128 rfl ?_
          refine g_getI dX1_extend_129 fl_X1_28 (x_vC hn (Nat.le_of_ble_eq_true rfl) (Nat.le_of_ble_eq_true rfl)) rfl rfl ?_
          refine g_cmp_le 152 dX1_extend_132 rfl (fun c_132 => ?_) (fun c_132 => ?_)
          · refine g_iinc (lv' := [(4, xI (((p + 1) : Nat) : Int)), _, _, _, _, _]) dX1_extend_152 (Nat.le_of_ble_eq_true rfl) rfl rfl ?_
            refine g_goto 52 dX1_extend_155 rfl ?_
            refine g_sub (lv2 := [(4, xI (((p + 1) : Nat) : Int)), _, _, _, _]) [0, 2, 3, 4, 5] rfl ?_
            exact f_cv rfl (by rw [RS_X1_extend_52, if_neg c_65, if_pos c_87, if_pos c_116, if_pos c_132]) (ih (p + 1) _  (by omega) (by first | exact hsz | (simp (disch := omega) only [x_up_o, x_up_k, x_cp_o, fr_S_X0_copyFrom, fr_S_X0_passDay]; exact hsz) | (simp (disch := first | omega | assumption) only [x_up_o, x_up_k, x_cp_o, fr_S_X0_copyFrom, fr_S_X0_passDay]; exact hsz)))
          · refine g_aload_n dX1_extend_135 rfl ?_
            refine g_getR (t2 := 21) (i2 := 0) dX1_extend_136 fl_X1_17 (x_vC hn (Nat.le_of_ble_eq_true rfl) (Nat.le_of_ble_eq_true rfl)) rfl rfl rfl ?_
            refine g_iload_n dX1_extend_139 rfl ?_
            refine g_iload dX1_extend_140 rfl ?_
            refine g_iast dp dX1_extend_142 rfl hd5 (x_vC hn (Nat.le_of_ble_eq_true rfl) (Nat.le_of_ble_eq_true rfl)) rfl ?_
            refine g_aload_n dX1_extend_143 rfl ?_
            refine g_iload_n dX1_extend_144 rfl ?_
            refine g_iconst dX1_extend_145 ?_
            refine g_iadd dX1_extend_146 ?_
            refine g_eqI ((dp + 1 : Nat) : Int) rfl ?_
            refine g_iload dX1_extend_147 rfl ?_
            refine f_Sv dX1_extend_149 cs_X1_58 mb_X1_extend (hC hd5 _ _ (by simp (disch := first | omega | assumption) only [x_up_o, x_cp_o, fr_S_X0_copyFrom, fr_S_X0_passDay]; exact hsz)) rfl (Nat.lt_of_lt_of_le (by decide) hn) rfl (Nat.le_of_ble_eq_true rfl) (by omega) (Nat.le_of_ble_eq_true rfl) (Nat.le_refl _) (Nat.le_refl _) ?_
            refine g_iinc (lv' := [(4, xI (((p + 1) : Nat) : Int)), _, _, _, _, _]) dX1_extend_152 (Nat.le_of_ble_eq_true rfl) rfl rfl ?_
            refine g_goto 52 dX1_extend_155 rfl ?_
            refine g_sub (lv2 := [(4, xI (((p + 1) : Nat) : Int)), _, _, _, _]) [0, 2, 3, 4, 5] rfl ?_
            exact f_cv rfl (by rw [RS_X1_extend_52, if_neg c_65, if_pos c_87, if_pos c_116, if_neg c_132]) (ih (p + 1) _  (by omega) (by first | exact hsz | (simp (disch := omega) only [x_up_o, x_up_k, x_cp_o, fr_S_X0_copyFrom, fr_S_X0_passDay, hG]; exact hsz) | (simp (disch := first | omega | assumption) only [x_up_o, x_up_k, x_cp_o, fr_S_X0_copyFrom, fr_S_X0_passDay, hG]; exact hsz)))
        · refine g_iload dX1_extend_119 rfl ?_
          refine g_goto 125 dX1_extend_121 rfl ?_
          refine f_V dX1_extend_125 cs_X1_62 mb_X0_finalWeight (c_X0_finalWeight l n _ (14 + dp) (x_and b (x_xor (x_shl 1 (p : Int)) (-1))) K hn (show 14 + dp < 20 by omega) hK (by rw [x_rof0 (by omega)]; first | exact hsz | (simp (disch := first | omega | assumption) only [x_up_o, x_cp_o, fr_S_X0_copyFrom, fr_S_X0_passDay]; exact hsz))) rfl (x_vC hn (Nat.le_of_ble_eq_true rfl) (show 14 + dp < 20 by omega)) rfl rfl rfl (Nat.le_of_ble_eq_true rfl) (by omega) (Nat.le_of_ble_eq_true rfl) (Nat.le_refl _) (Nat.le_refl _) ?_
          refine g_aload_n dX1_extend_128 rfl ?_
          refine g_getI dX1_extend_129 fl_X1_28 (x_vC hn (Nat.le_of_ble_eq_true rfl) (Nat.le_of_ble_eq_true rfl)) rfl rfl ?_
          refine g_cmp_le 152 dX1_extend_132 rfl (fun c_132 => ?_) (fun c_132 => ?_)
          · refine g_iinc (lv' := [(4, xI (((p + 1) : Nat) : Int)), _, _, _, _, _]) dX1_extend_152 (Nat.le_of_ble_eq_true rfl) rfl rfl ?_
            refine g_goto 52 dX1_extend_155 rfl ?_
            refine g_sub (lv2 := [(4, xI (((p + 1) : Nat) : Int)), _, _, _, _]) [0, 2, 3, 4, 5] rfl ?_
            exact f_cv rfl (by rw [RS_X1_extend_52, if_neg c_65, if_pos c_87, if_neg c_116, if_pos c_132]) (ih (p + 1) _  (by omega) (by first | exact hsz | (simp (disch := omega) only [x_up_o, x_up_k, x_cp_o, fr_S_X0_copyFrom, fr_S_X0_passDay]; exact hsz) | (simp (disch := first | omega | assumption) only [x_up_o, x_up_k, x_cp_o, fr_S_X0_copyFrom, fr_S_X0_passDay]; exact hsz)))
          · refine g_aload_n dX1_extend_135 rfl ?_
            refine g_getR (t2 := 21) (i2 := 0) dX1_extend_136 fl_X1_17 (x_vC hn (Nat.le_of_ble_eq_true rfl) (Nat.le_of_ble_eq_true rfl)) rfl rfl rfl ?_
            refine g_iload_n dX1_extend_139 rfl ?_
            refine g_iload dX1_extend_140 rfl ?_
            refine g_iast dp dX1_extend_142 rfl hd5 (x_vC hn (Nat.le_of_ble_eq_true rfl) (Nat.le_of_ble_eq_true rfl)) rfl ?_
            refine g_aload_n dX1_extend_143 rfl ?_
            refine g_iload_n dX1_extend_144 rfl ?_
            refine g_iconst dX1_extend_145 ?_
            refine g_iadd dX1_extend_146 ?_
            refine g_eqI ((dp + 1 : Nat) : Int) rfl ?_
            refine g_iload dX1_extend_147 rfl ?_
            refine f_Sv dX1_extend_149 cs_X1_58 mb_X1_extend (hC hd5 _ _ (by simp (disch := first | omega | assumption) only [x_up_o, x_cp_o, fr_S_X0_copyFrom, fr_S_X0_passDay]; exact hsz)) rfl (Nat.lt_of_lt_of_le (by decide) hn) rfl (Nat.le_of_ble_eq_true rfl) (by omega) (Nat.le_of_ble_eq_true rfl) (Nat.le_refl _) (Nat.le_refl _) ?_
            refine g_iinc (lv' := [(4, xI (((p + 1) : Nat) : Int)), _, _, _, _, _]) dX1_extend_152 (Nat.le_of_ble_eq_true rfl) rfl rfl ?_
            refine g_goto 52 dX1_extend_155 rfl ?_
            refine g_sub (lv2 := [(4, xI (((p + 1) : Nat) : Int)), _, _, _, _]) [0, 2, 3, 4, 5] rfl ?_
            exact f_cv rfl (by rw [RS_X1_extend_52, if_neg c_65, if_pos c_87, if_neg c_116, if_neg c_132]) (ih (p + 1) _  (by omega) (by first | exact hsz | (simp (disch := omega) only [x_up_o, x_up_k, x_cp_o, fr_S_X0_copyFrom, fr_S_X0_passDay, hG]; exact hsz) | (simp (disch := first | omega | assumption) only [x_up_o, x_up_k, x_cp_o, fr_S_X0_copyFrom, fr_S_X0_passDay, hG]; exact hsz)))
      · refine g_aload_n dX1_extend_90 rfl ?_
        refine g_iload dX1_extend_91 rfl ?_
        refine f_Vv dX1_extend_93 cs_X1_74 mb_X0_dispatch (c_X0_dispatch l n _ (14 + dp) p hn (show 14 + dp < 20 by omega) hp) rfl (x_vC hn (Nat.le_of_ble_eq_true rfl) (show 14 + dp < 20 by omega)) rfl rfl rfl (Nat.le_of_ble_eq_true rfl) (by omega) (Nat.le_of_ble_eq_true rfl) (Nat.le_refl _) (Nat.le_refl _) ?_
        refine g_aload_n dX1_extend_96 rfl ?_
        refine g_iconst dX1_extend_97 ?_
        refine f_Vv dX1_extend_98 cs_X1_78 mb_X0_passDay (c_X0_passDay l n _ (14 + dp) 0 K hn (show 14 + dp < 20 by omega) hK (by rw [x_rof0 (by omega)]; first | exact hsz | (simp (disch := first | omega | assumption) only [x_up_o, x_cp_o, fr_S_X0_copyFrom, fr_S_X0_dispatch]; exact hsz))) rfl (x_vC hn (Nat.le_of_ble_eq_true rfl) (show 14 + dp < 20 by omega)) rfl rfl rfl (Nat.le_of_ble_eq_true rfl) (by omega) (Nat.le_of_ble_eq_true rfl) (Nat.le_refl _) (Nat.le_refl _) ?_
        refine g_iload_n dX1_extend_101 rfl ?_
        refine g_iconst dX1_extend_102 ?_
        refine g_iload dX1_extend_103 rfl ?_
        refine g_ishl dX1_extend_105 ?_
        refine g_iconst dX1_extend_106 ?_
        refine g_ixor dX1_extend_107 ?_
        refine g_iand dX1_extend_108 ?_
        refine g_istore (lv' := [_, _, _, _, _, _]) dX1_extend_109 (Nat.le_of_ble_eq_true rfl) rfl ?_
        refine g_aload_n dX1_extend_111 rfl ?_
        refine g_aload_n dX1_extend_112 rfl ?_
        refine g_getI dX1_extend_113 fl_X1_38 (x_vC hn (Nat.le_of_ble_eq_true rfl) (show 14 + dp < 20 by omega)) rfl rfl ?_
        refine g_if_le 124 dX1_extend_116 rfl (fun c_116 => ?_) (fun c_116 => ?_)
        · refine g_iconst dX1_extend_124 ?_
          refine f_V dX1_extend_125 cs_X1_62 mb_X0_finalWeight (c_X0_finalWeight l n _ (14 + dp) 0 K hn (show 14 + dp < 20 by omega) hK (by rw [x_rof0 (by omega)]; first | exact hsz | (simp (disch := first | omega | assumption) only [x_up_o, x_cp_o, fr_S_X0_copyFrom, fr_S_X0_dispatch, fr_S_X0_passDay]; exact hsz))) rfl (x_vC hn (Nat.le_of_ble_eq_true rfl) (show 14 + dp < 20 by omega)) rfl rfl rfl (Nat.le_of_ble_eq_true rfl) (by omega) (Nat.le_of_ble_eq_true rfl) (Nat.le_refl _) (Nat.le_refl _) ?_
          refine g_aload_n dX1_extend_128 rfl ?_
          refine g_getI dX1_extend_129 fl_X1_28 (x_vC hn (Nat.le_of_ble_eq_true rfl) (Nat.le_of_ble_eq_true rfl)) rfl rfl ?_
          refine g_cmp_le 152 dX1_extend_132 rfl (fun c_132 => ?_) (fun c_132 => ?_)
          · refine g_iinc (lv' := [(4, xI (((p + 1) : Nat) : Int)), _, _, _, _, _]) dX1_extend_152 (Nat.le_of_ble_eq_true rfl) rfl rfl ?_
            refine g_goto 52 dX1_extend_155 rfl ?_
            refine g_sub (lv2 := [(4, xI (((p + 1) : Nat) : Int)), _, _, _, _]) [0, 2, 3, 4, 5] rfl ?_
            exact f_cv rfl (by rw [RS_X1_extend_52, if_neg c_65, if_neg c_87, if_pos c_116, if_pos c_132]) (ih (p + 1) _  (by omega) (by first | exact hsz | (simp (disch := omega) only [x_up_o, x_up_k, x_cp_o, fr_S_X0_copyFrom, fr_S_X0_dispatch, fr_S_X0_passDay]; exact hsz) | (simp (disch := first | omega | assumption) only [x_up_o, x_up_k, x_cp_o, fr_S_X0_copyFrom, fr_S_X0_dispatch, fr_S_X0_passDay]; exact hsz)))
          · refine g_aload_n dX1_extend_135 rfl ?_
            refine g_getR (t2 := 21) (i2 := 0) dX1_extend_136 fl_X1_17 (x_vC hn (Nat.le_of_ble_eq_true rfl) (Nat.le_of_ble_eq_true rfl)) rfl rfl rfl ?_
            refine g_iload_n dX1_extend_139 rfl ?_
            refine g_iload dX1_extend_140 rfl ?_
            refine g_iast dp dX1_extend_142 rfl hd5 (x_vC hn (Nat.le_of_ble_eq_true rfl) (Nat.le_of_ble_eq_true rfl)) rfl ?_
            refine g_aload_n dX1_extend_143 rfl ?_
            refine g_iload_n dX1_extend_144 rfl ?_
            refine g_iconst dX1_extend_145 ?_
            refine g_iadd dX1_extend_146 ?_
            refine g_eqI ((dp + 1 : Nat) : Int) rfl ?_
            refine g_iload dX1_extend_147 rfl ?_
            refine f_Sv dX1_extend_149 cs_X1_58 mb_X1_extend (hC hd5 _ _ (by simp (disch := first | omega | assumption) only [x_up_o, x_cp_o, fr_S_X0_copyFrom, fr_S_X0_dispatch, fr_S_X0_passDay]; exact hsz)) rfl (Nat.lt_of_lt_of_le (by decide) hn) rfl (Nat.le_of_ble_eq_true rfl) (by omega) (Nat.le_of_ble_eq_true rfl) (Nat.le_refl _) (Nat.le_refl _) ?_
            refine g_iinc (lv' := [(4, xI (((p + 1) : Nat) : Int)), _, _, _, _, _]) dX1_extend_152 (Nat.le_of_ble_eq_true rfl) rfl rfl ?_
            refine g_goto 52 dX1_extend_155 rfl ?_
            refine g_sub (lv2 := [(4, xI (((p + 1) : Nat) : Int)), _, _, _, _]) [0, 2, 3, 4, 5] rfl ?_
            exact f_cv rfl (by rw [RS_X1_extend_52, if_neg c_65, if_neg c_87, if_pos c_116, if_neg c_132]) (ih (p + 1) _  (by omega) (by first | exact hsz | (simp (disch := omega) only [x_up_o, x_up_k, x_cp_o, fr_S_X0_copyFrom, fr_S_X0_dispatch, fr_S_X0_passDay, hG]; exact hsz) | (simp (disch := first | omega | assumption) only [x_up_o, x_up_k, x_cp_o, fr_S_X0_copyFrom, fr_S_X0_dispatch, fr_S_X0_passDay, hG]; exact hsz)))
        · refine g_iload dX1_extend_119 rfl ?_
          refine g_goto 125 dX1_extend_121 rfl ?_
          refine f_V dX1_extend_125 cs_X1_62 mb_X0_finalWeight (c_X0_finalWeight l n _ (14 + dp) (x_and b (x_xor (x_shl 1 (p : Int)) (-1))) K hn (show 14 + dp < 20 by omega) hK (by rw [x_rof0 (by omega)]; first | exact hsz | (simp (disch := first | omega | assumption) only [x_up_o, x_cp_o, fr_S_X0_copyFrom, fr_S_X0_dispatch, fr_S_X0_passDay]; exact hsz))) rfl (x_vC hn (Nat.le_of_ble_eq_true rfl) (show 14 + dp < 20 by omega)) rfl rfl rfl (Nat.le_of_ble_eq_true rfl) (by omega) (Nat.le_of_ble_eq_true rfl) (Nat.le_refl _) (Nat.le_refl _) ?_
          refine g_aload_n dX1_extend_128 rfl ?_
          refine g_getI dX1_extend_129 fl_X1_28 (x_vC hn (Nat.le_of_ble_eq_true rfl) (Nat.le_of_ble_eq_true rfl)) rfl rfl ?_
          refine g_cmp_le 152 dX1_extend_132 rfl (fun c_132 => ?_) (fun c_132 => ?_)
          · refine g_iinc (lv' := [(4, xI (((p + 1) : Nat) : Int)), _, _, _, _, _]) dX1_extend_152 (Nat.le_of_ble_eq_true rfl) rfl rfl ?_
            refine g_goto 52 dX1_extend_155 rfl ?_
            refine g_sub (lv2 := [(4, xI (((p + 1) : Nat) : Int)), _, _, _, _]) [0, 2, 3, 4, 5] rfl ?_
            exact f_cv rfl (by rw [RS_X1_extend_52, if_neg c_65, if_neg c_87, if_neg c_116, if_pos c_132]) (ih (p + 1) _  (by omega) (by first | exact hsz | (simp (disch := omega) only [x_up_o, x_up_k, x_cp_o, fr_S_X0_copyFrom, fr_S_X0_dispatch, fr_S_X0_passDay]; exact hsz) | (simp (disch := first | omega | assumption) only [x_up_o, x_up_k, x_cp_o, fr_S_X0_copyFrom, fr_S_X0_dispatch, fr_S_X0_passDay]; exact hsz)))
          · refine g_aload_n dX1_extend_135 rfl ?_
            refine g_getR (t2 := 21) (i2 := 0) dX1_extend_136 fl_X1_17 (x_vC hn (Nat.le_of_ble_eq_true rfl) (Nat.le_of_ble_eq_true rfl)) rfl rfl rfl ?_
            refine g_iload_n dX1_extend_139 rfl ?_
            refine g_iload dX1_extend_140 rfl ?_
            refine g_iast dp dX1_extend_142 rfl hd5 (x_vC hn (Nat.le_of_ble_eq_true rfl) (Nat.le_of_ble_eq_true rfl)) rfl ?_
            refine g_aload_n dX1_extend_143 rfl ?_
            refine g_iload_n dX1_extend_144 rfl ?_
            refine g_iconst dX1_extend_145 ?_
            refine g_iadd dX1_extend_146 ?_
            refine g_eqI ((dp + 1 : Nat) : Int) rfl ?_
            refine g_iload dX1_extend_147 rfl ?_
            refine f_Sv dX1_extend_149 cs_X1_58 mb_X1_extend (hC hd5 _ _ (by simp (disch := first | omega | assumption) only [x_up_o, x_cp_o, fr_S_X0_copyFrom, fr_S_X0_dispatch, fr_S_X0_passDay]; exact hsz)) rfl (Nat.lt_of_lt_of_le (by decide) hn) rfl (Nat.le_of_ble_eq_true rfl) (by omega) (Nat.le_of_ble_eq_true rfl) (Nat.le_refl _) (Nat.le_refl _) ?_
            refine g_iinc (lv' := [(4, xI (((p + 1) : Nat) : Int)), _, _, _, _, _]) dX1_extend_152 (Nat.le_of_ble_eq_true rfl) rfl rfl ?_
            refine g_goto 52 dX1_extend_155 rfl ?_
            refine g_sub (lv2 := [(4, xI (((p + 1) : Nat) : Int)), _, _, _, _]) [0, 2, 3, 4, 5] rfl ?_
            exact f_cv rfl (by rw [RS_X1_extend_52, if_neg c_65, if_neg c_87, if_neg c_116, if_neg c_132]) (ih (p + 1) _  (by omega) (by first | exact hsz | (simp (disch := omega) only [x_up_o, x_up_k, x_cp_o, fr_S_X0_copyFrom, fr_S_X0_dispatch, fr_S_X0_passDay, hG]; exact hsz) | (simp (disch := first | omega | assumption) only [x_up_o, x_up_k, x_cp_o, fr_S_X0_copyFrom, fr_S_X0_dispatch, fr_S_X0_passDay, hG]; exact hsz)))
    · refine g_goto 152 dX1_extend_68 rfl ?_
      refine g_iinc (lv' := [(4, xI (((p + 1) : Nat) : Int)), _, _, _, _]) dX1_extend_152 (Nat.le_of_ble_eq_true rfl) rfl rfl ?_
      refine g_goto 52 dX1_extend_155 rfl ?_
      refine g_sub (lv2 := [(4, xI (((p + 1) : Nat) : Int)), _, _, _, _]) [0, 1, 2, 3, 4] rfl ?_
      exact f_cv rfl (by rw [RS_X1_extend_52, if_pos c_65]) (ih (p + 1) _  (by omega) hsz)
def S_X1_extend (σ : xMi) (dp : Nat) (b : Int) (m : Nat) (K : Nat) (G : (Int → xMi → xMi)) : xMi := (if x_wr b = 0 then (x_cp (x_up σ 19 0 4 (V_X0_finalWeight σ (13 + dp) 0 K)) 22 0 21 0 6) else (if x_wr (dp : Int) < x_wr 6 then (RS_X1_extend_52 dp b m K G 6 0 σ ) else (x_cp (x_up σ 19 0 4 (V_X0_finalWeight σ (13 + dp) 0 K)) 22 0 21 0 6)))
theorem c_X1_extend (l : Launch) (n : Nat) (σ : xMi) (dp : Nat) (b : Int) (m : Nat) (K : Nat) (G : (Int → xMi → xMi)) (hn : 131 ≤ n) (hdp : dp ≤ 1000000) (hK : K ≤ 6) (hd6 : dp ≤ 6) (hG : ∀ {t i k : Nat} (h : ¬ (t = 19 ∨ t = 21 ∨ t = 22 ∨ (t ≤ 4 ∧ 15 + dp ≤ i))) (b : Int) (σ : xMi), G b σ t i k = σ t i k) (hC : dp < 6 → ∀ (b : Int) (σ : xMi), σ 5 0 4 = (K : Int) → x_F l yX1_extend RX1 cX1_extend 6 none (m + 8) n σ [xR 19 0, xI ((dp + 1 : Nat) : Int), xI b] none (G b σ)) (hsz : σ 5 0 4 = (K : Int)) : x_F l yX1_extend RX1 cX1_extend 6 none (m + 9) n σ [xR 19 0, xI (dp : Int), xI b] none (S_X1_extend σ dp b m K G) := by
  refine f_of (by decide) rfl (Nat.le_of_ble_eq_true rfl) rfl ?_
  refine g_iload_n dX1_extend_0 rfl ?_
  refine g_if_eq 10 dX1_extend_1 rfl (fun c_1 => ?_) (fun c_1 => ?_)
  · refine g_aload_n dX1_extend_10 rfl ?_
    refine g_aload_n dX1_extend_11 rfl ?_
    refine g_getR (t2 := 20) (i2 := 0) dX1_extend_12 fl_X1_11 (x_vC hn (Nat.le_of_ble_eq_true rfl) (Nat.le_of_ble_eq_true rfl)) rfl rfl rfl ?_
    refine g_iload_n dX1_extend_15 rfl ?_
    refine g_aald (t2 := 0) (i2 := (13 + dp)) dp dX1_extend_16 rfl (Nat.lt_succ_of_le hd6) (x_vC hn (Nat.le_of_ble_eq_true rfl) (Nat.le_of_ble_eq_true rfl)) rfl (x_r20 (Nat.lt_succ_of_le hd6)) ?_
    refine g_iconst dX1_extend_17 ?_
    refine f_V dX1_extend_18 cs_X1_62 mb_X0_finalWeight (c_X0_finalWeight l n _ (13 + dp) 0 K hn (show 13 + dp < 20 by omega) hK (by rw [x_rof0 (by omega)]; first | exact hsz | (simp (disch := first | omega | assumption) only [x_up_o, x_cp_o]; exact hsz))) rfl (x_vC hn (Nat.le_of_ble_eq_true rfl) (show 13 + dp < 20 by omega)) rfl rfl rfl (Nat.le_of_ble_eq_true rfl) (by omega) (Nat.le_of_ble_eq_true rfl) (Nat.le_refl _) (Nat.le_refl _) ?_
    refine g_putI dX1_extend_21 fl_X1_28 (x_vC hn (Nat.le_of_ble_eq_true rfl) (Nat.le_of_ble_eq_true rfl)) rfl rfl ?_
    refine g_aload_n dX1_extend_24 rfl ?_
    refine g_getR (t2 := 21) (i2 := 0) dX1_extend_25 fl_X1_17 (x_vC hn (Nat.le_of_ble_eq_true rfl) (Nat.le_of_ble_eq_true rfl)) rfl rfl rfl ?_
    refine g_iconst dX1_extend_28 ?_
    refine g_aload_n dX1_extend_29 rfl ?_
    refine g_getR (t2 := 22) (i2 := 0) dX1_extend_30 fl_X1_21 (x_vC hn (Nat.le_of_ble_eq_true rfl) (Nat.le_of_ble_eq_true rfl)) rfl rfl rfl ?_
    refine g_iconst dX1_extend_33 ?_
    refine g_bipush dX1_extend_34 (by decide) ?_
    refine g_copy dX1_extend_36 cx_X1_65 w_copy1.1 w_copy1.2.1 w_copy1.2.2 (by omega) (Nat.le_of_ble_eq_true rfl) (x_vC hn (Nat.le_of_ble_eq_true rfl) (Nat.le_of_ble_eq_true rfl)) (x_vC hn (Nat.le_of_ble_eq_true rfl) (Nat.le_of_ble_eq_true rfl)) rfl rfl rfl (Nat.le_of_ble_eq_true rfl) (Nat.le_of_ble_eq_true rfl) ?_
    exact f_vret dX1_extend_39 rfl (by rw [S_X1_extend, if_pos c_1])
  · refine g_iload_n dX1_extend_4 rfl ?_
    refine g_bipush dX1_extend_5 (by decide) ?_
    refine g_cmp_lt 40 dX1_extend_7 rfl (fun c_7 => ?_) (fun c_7 => ?_)
    · refine g_aload_n dX1_extend_40 rfl ?_
      refine g_getR (t2 := 20) (i2 := 0) dX1_extend_41 fl_X1_11 (x_vC hn (Nat.le_of_ble_eq_true rfl) (Nat.le_of_ble_eq_true rfl)) rfl rfl rfl ?_
      refine g_iload_n dX1_extend_44 rfl ?_
      refine g_iconst dX1_extend_45 ?_
      refine g_iadd dX1_extend_46 ?_
      have hd5 : dp < 6 := by rw [x_nat (by omega), show x_wr 6 = 6 from by decide] at c_7; exact Int.ofNat_lt.mp c_7
      refine g_eqI ((dp + 1 : Nat) : Int) rfl ?_
      refine g_aald (t2 := 0) (i2 := (14 + dp)) (dp + 1) dX1_extend_47 rfl (Nat.succ_lt_succ hd5) (x_vC hn (Nat.le_of_ble_eq_true rfl) (Nat.le_of_ble_eq_true rfl)) rfl (by rw [x_r20 (by omega)]; congr 2; omega) ?_
      refine g_astore_n (lv' := [_, _, _, _]) dX1_extend_48 (Nat.le_of_ble_eq_true rfl) rfl ?_
      refine g_iconst dX1_extend_49 ?_
      refine g_istore (lv' := [_, _, _, _, _]) dX1_extend_50 (Nat.le_of_ble_eq_true rfl) rfl ?_
      refine g_sub (lv2 := [(4, xI ((0 : Nat) : Int)), _, _, _, _]) [0, 2, 3, 4, 1] rfl ?_
      exact f_cv rfl (by rw [S_X1_extend, if_neg c_1, if_pos c_7]) (lh_X1_extend_52 l n dp b m K G hn hdp hK hd6 hG hC 6 0 _  (by omega) hsz)
    · refine g_aload_n dX1_extend_10 rfl ?_
      refine g_aload_n dX1_extend_11 rfl ?_
      refine g_getR (t2 := 20) (i2 := 0) dX1_extend_12 fl_X1_11 (x_vC hn (Nat.le_of_ble_eq_true rfl) (Nat.le_of_ble_eq_true rfl)) rfl rfl rfl ?_
      refine g_iload_n dX1_extend_15 rfl ?_
      refine g_aald (t2 := 0) (i2 := (13 + dp)) dp dX1_extend_16 rfl (Nat.lt_succ_of_le hd6) (x_vC hn (Nat.le_of_ble_eq_true rfl) (Nat.le_of_ble_eq_true rfl)) rfl (x_r20 (Nat.lt_succ_of_le hd6)) ?_
      refine g_iconst dX1_extend_17 ?_
      refine f_V dX1_extend_18 cs_X1_62 mb_X0_finalWeight (c_X0_finalWeight l n _ (13 + dp) 0 K hn (show 13 + dp < 20 by omega) hK (by rw [x_rof0 (by omega)]; first | exact hsz | (simp (disch := first | omega | assumption) only [x_up_o, x_cp_o]; exact hsz))) rfl (x_vC hn (Nat.le_of_ble_eq_true rfl) (show 13 + dp < 20 by omega)) rfl rfl rfl (Nat.le_of_ble_eq_true rfl) (by omega) (Nat.le_of_ble_eq_true rfl) (Nat.le_refl _) (Nat.le_refl _) ?_
      refine g_putI dX1_extend_21 fl_X1_28 (x_vC hn (Nat.le_of_ble_eq_true rfl) (Nat.le_of_ble_eq_true rfl)) rfl rfl ?_
      refine g_aload_n dX1_extend_24 rfl ?_
      refine g_getR (t2 := 21) (i2 := 0) dX1_extend_25 fl_X1_17 (x_vC hn (Nat.le_of_ble_eq_true rfl) (Nat.le_of_ble_eq_true rfl)) rfl rfl rfl ?_
      refine g_iconst dX1_extend_28 ?_
      refine g_aload_n dX1_extend_29 rfl ?_
      refine g_getR (t2 := 22) (i2 := 0) dX1_extend_30 fl_X1_21 (x_vC hn (Nat.le_of_ble_eq_true rfl) (Nat.le_of_ble_eq_true rfl)) rfl rfl rfl ?_
      refine g_iconst dX1_extend_33 ?_
      refine g_bipush dX1_extend_34 (by decide) ?_
      refine g_copy dX1_extend_36 cx_X1_65 w_copy1.1 w_copy1.2.1 w_copy1.2.2 (by omega) (Nat.le_of_ble_eq_true rfl) (x_vC hn (Nat.le_of_ble_eq_true rfl) (Nat.le_of_ble_eq_true rfl)) (x_vC hn (Nat.le_of_ble_eq_true rfl) (Nat.le_of_ble_eq_true rfl)) rfl rfl rfl (Nat.le_of_ble_eq_true rfl) (Nat.le_of_ble_eq_true rfl) ?_
      exact f_vret dX1_extend_39 rfl (by rw [S_X1_extend, if_neg c_1, if_neg c_7])

theorem fr_RS_X1 (dp : Nat) (b : Int) (m K : Nat) (G : Int → xMi → xMi) (hG : ∀ {t i k : Nat} (h : ¬ (t = 19 ∨ t = 21 ∨ t = 22 ∨ (t ≤ 4 ∧ 15 + dp ≤ i))) (b : Int) (σ : xMi), G b σ t i k = σ t i k) {t i k' : Nat} (h : ¬ (t = 19 ∨ t = 21 ∨ t = 22 ∨ (t ≤ 4 ∧ 14 + dp ≤ i))) : ∀ (k p : Nat) (σ : xMi), RS_X1_extend_52 dp b m K G k p σ t i k' = σ t i k' := by
  have hg : ∀ (b : Int) (σ : xMi), G b σ t i k' = σ t i k' := fun b σ => hG (by omega) b σ
  have h1 : ∀ σ : xMi, S_X0_copyFrom σ (14 + dp) (13 + dp) t i k' = σ t i k' := fun σ => fr_S_X0_copyFrom σ _ _ (by omega)
  have h2 : ∀ (σ : xMi) p, S_X0_dispatch σ (14 + dp) p t i k' = σ t i k' := fun σ p => fr_S_X0_dispatch σ _ _ (by omega)
  have h3 : ∀ (σ : xMi), S_X0_passDay σ (14 + dp) 0 K t i k' = σ t i k' := fun σ => fr_S_X0_passDay σ _ _ _ (by omega)
  have h4 : ∀ (σ : xMi) v, x_up σ 21 0 dp v t i k' = σ t i k' := fun σ v => x_up_o (by omega) k'
  intro k
  induction k with
  | zero => intro p σ; rfl
  | succ k ih =>
    intro p σ
    simp only [RS_X1_extend_52]
    (repeat' split) <;> simp only [ih, hg, h1, h2, h3, h4]
def SX (K : Nat) : Nat → Nat → Int → xMi → xMi
  | 0, dp, b, σ => S_X1_extend σ dp b 0 K (fun _ σ => σ)
  | m + 1, dp, b, σ => S_X1_extend σ dp b (m + 1) K (SX K m (dp + 1))
theorem fr_S_X1_extend (σ : xMi) (dp : Nat) (b : Int) (m K : Nat) (G : Int → xMi → xMi) (hG : ∀ {t i k : Nat} (h : ¬ (t = 19 ∨ t = 21 ∨ t = 22 ∨ (t ≤ 4 ∧ 15 + dp ≤ i))) (b : Int) (σ : xMi), G b σ t i k = σ t i k) {t i k : Nat} (h : ¬ (t = 19 ∨ t = 21 ∨ t = 22 ∨ (t ≤ 4 ∧ 14 + dp ≤ i))) : S_X1_extend σ dp b m K G t i k = σ t i k := by
  unfold S_X1_extend
  (repeat' split) <;> first | rw [fr_RS_X1 dp b m K G hG h] | rw [x_cp_o (by omega), x_up_o (by omega)]
theorem fr_SX (K : Nat) : ∀ (m dp : Nat) {t i k : Nat} (h : ¬ (t = 19 ∨ t = 21 ∨ t = 22 ∨ (t ≤ 4 ∧ 14 + dp ≤ i))) (b : Int) (σ : xMi), SX K m dp b σ t i k = σ t i k := by
  intro m
  induction m with
  | zero => intro dp t i k h b σ; exact fr_S_X1_extend σ dp b 0 K _ (fun _ _ _ => rfl) h
  | succ m ih =>
    intro dp t i k h b σ
    refine fr_S_X1_extend σ dp b (m + 1) K _ ?_ h
    intro t i k h b σ
    exact ih (dp + 1) (by omega) b σ
theorem c_SX (l : Launch) (n K : Nat) (hn : 131 ≤ n) (hK : K ≤ 6) : ∀ (m dp : Nat) (b : Int) (σ : xMi), dp + m = 6 → σ 5 0 4 = (K : Int) → x_F l yX1_extend RX1 cX1_extend 6 none (m + 9) n σ [xR 19 0, xI (dp : Int), xI b] none (SX K m dp b σ) := by
  intro m
  induction m with
  | zero =>
    intro dp b σ h hsz
    exact c_X1_extend l n σ dp b 0 K _ hn (by omega) hK (by omega) (fun _ _ _ => rfl) (fun h9 => absurd h9 (by omega)) hsz
  | succ m ih =>
    intro dp b σ h hsz
    refine c_X1_extend l n σ dp b (m + 1) K _ hn (by omega) hK (by omega) ?_ (fun _ b σ h9 => ih (dp + 1) b σ (by omega) h9) hsz
    intro t i k h9 b σ
    exact fr_SX K m (dp + 1) (by omega) b σ
def RV_X1_run_23 (h1 : Int) (K : Nat) : Nat → Nat → xMi → Int → Int
  | 0, p, σ, a => ((SX K 6 0 a (x_up (x_up σ 19 0 3 (V_J6_bitCount_0f7a4 σ a)) 19 0 4 (-1))) 19 0 4)
  | k + 1, p, σ, a => (if x_wr (V_X0_canBeSentOne σ 0 p) = 0 then (RV_X1_run_23 h1 K k (p + 1) σ a) else (RV_X1_run_23 h1 K k (p + 1) σ (x_or a (x_shl 1 (p : Int)))))
def RS_X1_run_23 (h1 : Int) (K : Nat) : Nat → Nat → xMi → Int → xMi
  | 0, p, σ, a => (SX K 6 0 a (x_up (x_up σ 19 0 3 (V_J6_bitCount_0f7a4 σ a)) 19 0 4 (-1)))
  | k + 1, p, σ, a => (if x_wr (V_X0_canBeSentOne σ 0 p) = 0 then (RS_X1_run_23 h1 K k (p + 1) σ a) else (RS_X1_run_23 h1 K k (p + 1) σ (x_or a (x_shl 1 (p : Int)))))
theorem fr_RS_X1_run_23 (h1 : Int) (K : Nat) {t i k' : Nat} (h : ¬ (t = 19 ∨ t = 21 ∨ t = 22 ∨ (t ≤ 4 ∧ 13 ≤ i))) : ∀ (k p : Nat) (σ : xMi) (a : Int), RS_X1_run_23 h1 K k p σ a t i k' = σ t i k' := by
  intro k
  induction k with
  | zero =>
    intro p σ a
    simp only [RS_X1_run_23]
    all_goals ((repeat' split) <;> simp (disch := first | omega | assumption) only [x_up_o, x_up_k, x_cp_o, fr_SX])
  | succ k ih =>
    intro p σ a
    simp only [RS_X1_run_23]
    all_goals (repeat' split)
    all_goals (first | rw [ih] | skip)
    all_goals first | done | simp (disch := first | omega | assumption) only [x_up_o, x_up_k, x_cp_o]
theorem lh_X1_run_23 (l : Launch) (n : Nat) (h1 : Int) (K : Nat) (hn : 131 ≤ n) (hK : K ≤ 6) : ∀ (k p : Nat) (σ : xMi) (a : Int), p + k = K → (σ 5 0 4 = (K : Int)) →  x_G l RX1 cX1_run 6 (some .int) 16 n (some (xI (RV_X1_run_23 h1 K k p σ a))) (RS_X1_run_23 h1 K k p σ a) 23 [(5, xI (p : Int)), (4, xI a), (0, xR 19 0), (1, xR 0 0), (2, xI h1), (3, xR 0 13)] [] σ := by
  intro k
  induction k with
  | zero =>
    intro p σ a hk hsz
    refine g_iload dX1_run_23 rfl ?_
    refine g_aload_n dX1_run_25 rfl ?_
    refine g_getR (t2 := 5) (i2 := 0) dX1_run_26 fl_X1_41 (x_vC hn (Nat.le_of_ble_eq_true rfl) (Nat.le_of_ble_eq_true rfl)) rfl rfl rfl ?_
    refine g_getI dX1_run_29 fl_X1_45 (x_vC hn (Nat.le_of_ble_eq_true rfl) (Nat.le_of_ble_eq_true rfl)) rfl rfl ?_
    refine g_cmp_ge 59 dX1_run_32 rfl (fun c_32 => ?_) (fun c_32 => absurd (by rw [hsz, x_nat (by omega), x_nat (by omega)]; omega) c_32)
    refine g_aload_n dX1_run_59 rfl ?_
    refine g_iload dX1_run_60 rfl ?_
    refine f_S dX1_run_62 cs_X1_52 mb_J6_bitCount_0f7a4 (c_J6_bitCount_0f7a4 l n _ a hn) rfl (Nat.lt_of_lt_of_le (by decide) hn) rfl (Nat.le_of_ble_eq_true rfl) (by decide) (Nat.le_of_ble_eq_true rfl) (Nat.le_refl _) (Nat.le_refl _) ?_
    refine g_putI dX1_run_65 fl_X1_24 (x_vC hn (Nat.le_of_ble_eq_true rfl) (Nat.le_of_ble_eq_true rfl)) rfl rfl ?_
    refine g_aload_n dX1_run_68 rfl ?_
    refine g_iconst dX1_run_69 ?_
    refine g_putI dX1_run_70 fl_X1_28 (x_vC hn (Nat.le_of_ble_eq_true rfl) (Nat.le_of_ble_eq_true rfl)) rfl rfl ?_
    refine g_aload_n dX1_run_73 rfl ?_
    refine g_iconst dX1_run_74 ?_
    refine g_iload dX1_run_75 rfl ?_
    refine f_Sv dX1_run_77 cs_X1_58 mb_X1_extend (c_SX l n K hn hK 6 0 _ _ (by decide) (by simp (disch := first | omega | assumption) only [x_up_o, x_cp_o]; exact hsz)) rfl (Nat.lt_of_lt_of_le (by decide) hn) rfl (Nat.le_of_ble_eq_true rfl) (by decide) (Nat.le_of_ble_eq_true rfl) (Nat.le_refl _) (Nat.le_refl _) ?_
    refine g_aload_n dX1_run_80 rfl ?_
    refine g_getI dX1_run_81 fl_X1_28 (x_vC hn (Nat.le_of_ble_eq_true rfl) (Nat.le_of_ble_eq_true rfl)) rfl rfl ?_
    exact f_iret dX1_run_84 rfl rfl
  | succ k ih =>
    intro p σ a hk hsz
    have hp : p < 6 := by omega
    refine g_iload dX1_run_23 rfl ?_
    refine g_aload_n dX1_run_25 rfl ?_
    refine g_getR (t2 := 5) (i2 := 0) dX1_run_26 fl_X1_41 (x_vC hn (Nat.le_of_ble_eq_true rfl) (Nat.le_of_ble_eq_true rfl)) rfl rfl rfl ?_
    refine g_getI dX1_run_29 fl_X1_45 (x_vC hn (Nat.le_of_ble_eq_true rfl) (Nat.le_of_ble_eq_true rfl)) rfl rfl ?_
    refine g_cmp_ge 59 dX1_run_32 rfl (fun c_32 => absurd c_32 (by rw [hsz, x_nat (by omega), x_nat (by omega)]; omega)) (fun c_32 => ?_)
    refine g_aload_n dX1_run_35 rfl ?_
    refine g_iload dX1_run_36 rfl ?_
    refine f_V dX1_run_38 cs_X1_48 mb_X0_canBeSentOne (c_X0_canBeSentOne l n _ 0 p hn (Nat.le_of_ble_eq_true rfl) hp) rfl (x_vC hn (Nat.le_of_ble_eq_true rfl) (Nat.le_of_ble_eq_true rfl)) rfl rfl rfl (Nat.le_of_ble_eq_true rfl) (by decide) (Nat.le_of_ble_eq_true rfl) (Nat.le_refl _) (Nat.le_refl _) ?_
    refine g_if_eq 53 dX1_run_41 rfl (fun c_41 => ?_) (fun c_41 => ?_)
    · refine g_iinc (lv' := [(5, xI (((p + 1) : Nat) : Int)), _, _, _, _, _]) dX1_run_53 (Nat.le_of_ble_eq_true rfl) rfl rfl ?_
      refine g_goto 23 dX1_run_56 rfl ?_
      refine g_sub (lv2 := [(5, xI (((p + 1) : Nat) : Int)), _, _, _, _, _]) [0, 1, 2, 3, 4, 5] rfl ?_
      exact f_cv (by rw [RV_X1_run_23, if_pos c_41]) (by rw [RS_X1_run_23, if_pos c_41]) (ih (p + 1) _ _ (by omega) hsz)
    · refine g_iload dX1_run_44 rfl ?_
      refine g_iconst dX1_run_46 ?_
      refine g_iload dX1_run_47 rfl ?_
      refine g_ishl dX1_run_49 ?_
      refine g_ior dX1_run_50 ?_
      refine g_istore (lv' := [_, _, _, _, _, _]) dX1_run_51 (Nat.le_of_ble_eq_true rfl) rfl ?_
      refine g_iinc (lv' := [(5, xI (((p + 1) : Nat) : Int)), _, _, _, _, _]) dX1_run_53 (Nat.le_of_ble_eq_true rfl) rfl rfl ?_
      refine g_goto 23 dX1_run_56 rfl ?_
      refine g_sub (lv2 := [(5, xI (((p + 1) : Nat) : Int)), _, _, _, _, _]) [0, 1, 2, 3, 4, 5] rfl ?_
      exact f_cv (by rw [RV_X1_run_23, if_neg c_41]) (by rw [RS_X1_run_23, if_neg c_41]) (ih (p + 1) _ _ (by omega) hsz)
def V_X1_run (σ : xMi) (h1 : Int) (K : Nat) : Int := (RV_X1_run_23 h1 K K 0 (x_up (S_X0_copyFrom σ 13 0) 0 13 9 h1) 0)
def S_X1_run (σ : xMi) (h1 : Int) (K : Nat) : xMi := (RS_X1_run_23 h1 K K 0 (x_up (S_X0_copyFrom σ 13 0) 0 13 9 h1) 0)
theorem fr_S_X1_run (σ : xMi) (h1 : Int) (K : Nat) {t i k : Nat} (h : ¬ (t = 19 ∨ t = 21 ∨ t = 22 ∨ (t ≤ 4 ∧ 13 ≤ i))) : S_X1_run σ h1 K t i k = σ t i k := by
  unfold S_X1_run
  all_goals ((repeat' split) <;> first | rfl | simp (disch := first | omega | assumption) only [x_up_o, x_up_k, x_cp_o, fr_RS_X1_run_23, fr_S_X0_copyFrom])
theorem c_X1_run (l : Launch) (n : Nat) (σ : xMi) (h1 : Int) (K : Nat) (hn : 131 ≤ n) (hK : K ≤ 6) (hsz : σ 5 0 4 = (K : Int)) : x_F l yX1_run RX1 cX1_run 6 (some .int) 16 n σ [xR 19 0, xR 0 0, xI h1] (some (xI (V_X1_run σ h1 K))) (S_X1_run σ h1 K) := by
  refine f_of (by decide) rfl (Nat.le_of_ble_eq_true rfl) rfl ?_
  refine g_aload_n dX1_run_0 rfl ?_
  refine g_getR (t2 := 20) (i2 := 0) dX1_run_1 fl_X1_11 (x_vC hn (Nat.le_of_ble_eq_true rfl) (Nat.le_of_ble_eq_true rfl)) rfl rfl rfl ?_
  refine g_iconst dX1_run_4 ?_
  refine g_aald (t2 := 0) (i2 := 13) 0 dX1_run_5 rfl (Nat.le_of_ble_eq_true rfl) (x_vC hn (Nat.le_of_ble_eq_true rfl) (Nat.le_of_ble_eq_true rfl)) rfl (x_r20 (by decide)) ?_
  refine g_astore_n (lv' := [_, _, _, _]) dX1_run_6 (Nat.le_of_ble_eq_true rfl) rfl ?_
  refine g_aload_n dX1_run_7 rfl ?_
  refine g_aload_n dX1_run_8 rfl ?_
  refine f_Vv dX1_run_9 cs_X1_34 mb_X0_copyFrom (c_X0_copyFrom l n _ 13 0 hn (Nat.le_of_ble_eq_true rfl) (Nat.le_of_ble_eq_true rfl)) rfl (x_vC hn (Nat.le_of_ble_eq_true rfl) (Nat.le_of_ble_eq_true rfl)) rfl rfl rfl (Nat.le_of_ble_eq_true rfl) (by decide) (Nat.le_of_ble_eq_true rfl) (Nat.le_refl _) (Nat.le_refl _) ?_
  refine g_aload_n dX1_run_12 rfl ?_
  refine g_iload_n dX1_run_13 rfl ?_
  refine g_putI dX1_run_14 fl_X1_38 (x_vC hn (Nat.le_of_ble_eq_true rfl) (Nat.le_of_ble_eq_true rfl)) rfl rfl ?_
  refine g_iconst dX1_run_17 ?_
  refine g_istore (lv' := [_, _, _, _, _]) dX1_run_18 (Nat.le_of_ble_eq_true rfl) rfl ?_
  refine g_iconst dX1_run_20 ?_
  refine g_istore (lv' := [_, _, _, _, _, _]) dX1_run_21 (Nat.le_of_ble_eq_true rfl) rfl ?_
  refine g_sub (lv2 := [(5, xI ((0 : Nat) : Int)), _, _, _, _, _]) [0, 1, 3, 4, 5, 2] rfl ?_
  exact f_cv rfl rfl (lh_X1_run_23 l n h1 K hn hK K 0 _ _ (by omega) (by first | exact hsz | (simp (disch := omega) only [x_up_o, x_up_k, x_cp_o, fr_S_X0_copyFrom]; exact hsz) | (simp (disch := first | omega | assumption) only [x_up_o, x_up_k, x_cp_o, fr_S_X0_copyFrom]; exact hsz)))
