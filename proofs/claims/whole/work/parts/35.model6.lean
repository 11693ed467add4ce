def RV_X7_nextRow_107 (R : Nat) : Nat → xMi → Nat → Int → Int
  | 0, σ, aa, bb => 1
  | k + 1, σ, aa, bb => (if x_wr bb ≤ x_wr (aa : Int) then 1 else (RV_X7_nextRow_107 R k (x_up (x_up σ 44 0 aa (σ 44 0 (bb.toNat))) 44 0 (bb.toNat) (σ 44 0 aa)) (aa + 1) (((bb.toNat : Nat) : Int) + (-1))))
def RS_X7_nextRow_107 (R : Nat) : Nat → xMi → Nat → Int → xMi
  | 0, σ, aa, bb => σ
  | k + 1, σ, aa, bb => (if x_wr bb ≤ x_wr (aa : Int) then σ else (RS_X7_nextRow_107 R k (x_up (x_up σ 44 0 aa (σ 44 0 (bb.toNat))) 44 0 (bb.toNat) (σ 44 0 aa)) (aa + 1) (((bb.toNat : Nat) : Int) + (-1))))
theorem fr_RS_X7_nextRow_107 (R : Nat) {t i k' : Nat} (h : ¬ (t = 44)) : ∀ (k : Nat) (σ : xMi) (aa : Nat) (bb : Int), RS_X7_nextRow_107 R k σ aa bb t i k' = σ t i k' := by
  intro k
  induction k with
  | zero =>
    intro σ aa bb
    simp only [RS_X7_nextRow_107]
    all_goals ((repeat' split) <;> simp (disch := first | omega | assumption) only [x_up_o, x_up_k, x_cp_o])
  | succ k ih =>
    intro σ aa bb
    simp only [RS_X7_nextRow_107]
    all_goals (repeat' split)
    all_goals (first | rw [ih] | skip)
    all_goals first | done | simp (disch := first | omega | assumption) only [x_up_o, x_up_k, x_cp_o]
theorem lh_X7_nextRow_107 (l : Launch) (n : Nat)  (R : Nat) (hn : 154 ≤ n) (hR : R ≤ 6) : ∀ (k  : Nat) (σ : xMi) (aa : Nat) (bb : Int), (aa : Int) ≤ bb + 1 ∧ bb + 1 ≤ (R : Int) ∧ bb ≤ (aa : Int) + 2 * k → (σ 24 0 31 = (R : Int)) →  x_G l RX7 cX7_nextRow 7 (some .boolean) 0 n (some (xI (RV_X7_nextRow_107 R k  σ aa bb))) (RS_X7_nextRow_107 R k  σ aa bb) 107 [(5, xI (aa : Int)), (4, xI bb), (0, xR 24 0)] [] σ := by
  intro k
  induction k with
  | zero =>
    intro  σ aa bb hk hrm
    refine g_iload dX7_nextRow_107 rfl ?_
    refine g_iload dX7_nextRow_109 rfl ?_
    refine g_cmp_ge 155 dX7_nextRow_111 rfl (fun c_111 => ?_) (fun c_111 => absurd (by rw [x_wr_of (by omega) (by omega), x_nat (by omega)]; omega) c_111)
    refine g_iconst dX7_nextRow_155 ?_
    exact f_zret dX7_nextRow_156 (by decide) rfl rfl
  | succ k ih =>
    intro  σ aa bb hk hrm
    refine g_iload dX7_nextRow_107 rfl ?_
    refine g_iload dX7_nextRow_109 rfl ?_
    refine g_cmp_ge 155 dX7_nextRow_111 rfl (fun c_111 => ?_) (fun c_111 => ?_)
    · refine g_iconst dX7_nextRow_155 ?_
      exact f_zret dX7_nextRow_156 (by decide) (by rw [RV_X7_nextRow_107, if_pos c_111]) (by rw [RS_X7_nextRow_107, if_pos c_111])
    · have hBB : bb = ((bb.toNat : Nat) : Int) ∧ aa < bb.toNat := by rw [x_wr_of (by omega) (by omega), x_nat (by omega)] at c_111; omega
      refine g_lveq (lv2 := [(5, xI (aa : Int)), (4, xI ((bb.toNat : Nat) : Int)), (0, xR 24 0)]) (by rw [← hBB.1] <;> rfl) ?_
      refine g_aload_n dX7_nextRow_114 rfl ?_
      refine g_getR (t2 := 44) (i2 := 0) dX7_nextRow_115 fl_X7_67 (x_vM hn (Nat.le_of_ble_eq_true rfl) (Nat.le_of_ble_eq_true rfl)) rfl rfl rfl ?_
      refine g_iload dX7_nextRow_118 rfl ?_
      refine g_iald aa dX7_nextRow_120 rfl (show aa < 6 by omega) (x_vM hn (Nat.le_of_ble_eq_true rfl) (Nat.le_of_ble_eq_true rfl)) rfl ?_
      refine g_istore (lv' := [_, _, _, _]) dX7_nextRow_121 (Nat.le_of_ble_eq_true rfl) rfl ?_
      refine g_aload_n dX7_nextRow_123 rfl ?_
      refine g_getR (t2 := 44) (i2 := 0) dX7_nextRow_124 fl_X7_67 (x_vM hn (Nat.le_of_ble_eq_true rfl) (Nat.le_of_ble_eq_true rfl)) rfl rfl rfl ?_
      refine g_iload dX7_nextRow_127 rfl ?_
      refine g_aload_n dX7_nextRow_129 rfl ?_
      refine g_getR (t2 := 44) (i2 := 0) dX7_nextRow_130 fl_X7_67 (x_vM hn (Nat.le_of_ble_eq_true rfl) (Nat.le_of_ble_eq_true rfl)) rfl rfl rfl ?_
      refine g_iload dX7_nextRow_133 rfl ?_
      refine g_iald (bb.toNat) dX7_nextRow_135 rfl (show bb.toNat < 6 by omega) (x_vM hn (Nat.le_of_ble_eq_true rfl) (Nat.le_of_ble_eq_true rfl)) rfl ?_
      refine g_iast aa dX7_nextRow_136 rfl (show aa < 6 by omega) (x_vM hn (Nat.le_of_ble_eq_true rfl) (Nat.le_of_ble_eq_true rfl)) rfl ?_
      refine g_aload_n dX7_nextRow_137 rfl ?_
      refine g_getR (t2 := 44) (i2 := 0) dX7_nextRow_138 fl_X7_67 (x_vM hn (Nat.le_of_ble_eq_true rfl) (Nat.le_of_ble_eq_true rfl)) rfl rfl rfl ?_
      refine g_iload dX7_nextRow_141 rfl ?_
      refine g_iload dX7_nextRow_143 rfl ?_
      refine g_iast (bb.toNat) dX7_nextRow_145 rfl (show bb.toNat < 6 by omega) (x_vM hn (Nat.le_of_ble_eq_true rfl) (Nat.le_of_ble_eq_true rfl)) rfl ?_
      refine g_iinc (lv' := [_, _, _, _]) dX7_nextRow_146 (Nat.le_of_ble_eq_true rfl) rfl rfl ?_
      refine g_iinc (lv' := [(5, xI (((aa + 1) : Nat) : Int)), _, _, _]) dX7_nextRow_149 (Nat.le_of_ble_eq_true rfl) rfl rfl ?_
      refine g_goto 107 dX7_nextRow_152 rfl ?_
      refine g_sub (lv2 := [(5, xI (((aa + 1) : Nat) : Int)), _, _]) [0, 1, 3] rfl ?_
      exact f_cv (by rw [RV_X7_nextRow_107, if_neg c_111]) (by rw [RS_X7_nextRow_107, if_neg c_111]) (ih  _ (aa + 1) _ (by omega) (by first | exact hrm | (simp (disch := omega) only [x_up_o, x_up_k, x_cp_o]; exact hrm) | (simp (disch := first | omega | assumption) only [x_up_o, x_up_k, x_cp_o]; exact hrm)))
def RV_X7_nextRow_47 (R : Nat) : Nat → xMi → Nat → Int → Int
  | 0, σ, kx, b => (RV_X7_nextRow_107 R 6  (x_up (x_up σ 44 0 kx (σ 44 0 (b.toNat))) 44 0 (b.toNat) (σ 44 0 kx)) (kx + 1) (((x_up (x_up σ 44 0 kx (σ 44 0 (b.toNat))) 44 0 (b.toNat) (σ 44 0 kx)) 24 0 31) - 1))
  | k + 1, σ, kx, b => (if x_wr (σ 44 0 kx) ≤ x_wr (σ 44 0 (b.toNat)) then (RV_X7_nextRow_107 R 6  (x_up (x_up σ 44 0 kx (σ 44 0 (b.toNat))) 44 0 (b.toNat) (σ 44 0 kx)) (kx + 1) (((x_up (x_up σ 44 0 kx (σ 44 0 (b.toNat))) 44 0 (b.toNat) (σ 44 0 kx)) 24 0 31) - 1)) else (RV_X7_nextRow_47 R k σ kx (((b.toNat : Nat) : Int) + (-1))))
def RS_X7_nextRow_47 (R : Nat) : Nat → xMi → Nat → Int → xMi
  | 0, σ, kx, b => (RS_X7_nextRow_107 R 6  (x_up (x_up σ 44 0 kx (σ 44 0 (b.toNat))) 44 0 (b.toNat) (σ 44 0 kx)) (kx + 1) (((x_up (x_up σ 44 0 kx (σ 44 0 (b.toNat))) 44 0 (b.toNat) (σ 44 0 kx)) 24 0 31) - 1))
  | k + 1, σ, kx, b => (if x_wr (σ 44 0 kx) ≤ x_wr (σ 44 0 (b.toNat)) then (RS_X7_nextRow_107 R 6  (x_up (x_up σ 44 0 kx (σ 44 0 (b.toNat))) 44 0 (b.toNat) (σ 44 0 kx)) (kx + 1) (((x_up (x_up σ 44 0 kx (σ 44 0 (b.toNat))) 44 0 (b.toNat) (σ 44 0 kx)) 24 0 31) - 1)) else (RS_X7_nextRow_47 R k σ kx (((b.toNat : Nat) : Int) + (-1))))
theorem fr_RS_X7_nextRow_47 (R : Nat) {t i k' : Nat} (h : ¬ (t = 44)) : ∀ (k : Nat) (σ : xMi) (kx : Nat) (b : Int), RS_X7_nextRow_47 R k σ kx b t i k' = σ t i k' := by
  intro k
  induction k with
  | zero =>
    intro σ kx b
    simp only [RS_X7_nextRow_47]
    all_goals ((repeat' split) <;> simp (disch := first | omega | assumption) only [x_up_o, x_up_k, x_cp_o, fr_RS_X7_nextRow_107])
  | succ k ih =>
    intro σ kx b
    simp only [RS_X7_nextRow_47]
    all_goals (repeat' split)
    all_goals (first | rw [ih] | skip)
    all_goals first | done | simp (disch := first | omega | assumption) only [x_up_o, x_up_k, x_cp_o, fr_RS_X7_nextRow_107]
theorem lh_X7_nextRow_47 (l : Launch) (n : Nat)  (R : Nat) (hn : 154 ≤ n) (hR : R ≤ 6) : ∀ (k  : Nat) (σ : xMi) (kx : Nat) (b : Int), (kx : Int) + 1 ≤ b ∧ b + 1 ≤ (R : Int) ∧ b ≤ (kx : Int) + 1 + k ∧ x_wr (σ 44 0 kx) ≤ x_wr (σ 44 0 (kx + 1)) → (σ 24 0 31 = (R : Int)) →  x_G l RX7 cX7_nextRow 7 (some .boolean) 0 n (some (xI (RV_X7_nextRow_47 R k  σ kx b))) (RS_X7_nextRow_47 R k  σ kx b) 47 [(1, xI (kx : Int)), (2, xI b), (0, xR 24 0)] [] σ := by
  intro k
  induction k with
  | zero =>
    intro  σ kx b hk hrm
    have hB : b = ((b.toNat : Nat) : Int) := by omega
    refine g_lveq (lv2 := [(1, xI (kx : Int)), (2, xI ((b.toNat : Nat) : Int)), (0, xR 24 0)]) (by rw [← hB] <;> rfl) ?_
    refine g_aload_n dX7_nextRow_47 rfl ?_
    refine g_getR (t2 := 44) (i2 := 0) dX7_nextRow_48 fl_X7_67 (x_vM hn (Nat.le_of_ble_eq_true rfl) (Nat.le_of_ble_eq_true rfl)) rfl rfl rfl ?_
    refine g_iload_n dX7_nextRow_51 rfl ?_
    refine g_iald (b.toNat) dX7_nextRow_52 rfl (show b.toNat < 6 by omega) (x_vM hn (Nat.le_of_ble_eq_true rfl) (Nat.le_of_ble_eq_true rfl)) rfl ?_
    refine g_aload_n dX7_nextRow_53 rfl ?_
    refine g_getR (t2 := 44) (i2 := 0) dX7_nextRow_54 fl_X7_67 (x_vM hn (Nat.le_of_ble_eq_true rfl) (Nat.le_of_ble_eq_true rfl)) rfl rfl rfl ?_
    refine g_iload_n dX7_nextRow_57 rfl ?_
    refine g_iald kx dX7_nextRow_58 rfl (show kx < 6 by omega) (x_vM hn (Nat.le_of_ble_eq_true rfl) (Nat.le_of_ble_eq_true rfl)) rfl ?_
    refine g_cmp_ge 68 dX7_nextRow_59 rfl (fun c_59 => ?_) (fun c_59 => absurd (by rw [show b.toNat = kx + 1 by omega]; exact hk.2.2.2) c_59)
    refine g_aload_n dX7_nextRow_68 rfl ?_
    refine g_getR (t2 := 44) (i2 := 0) dX7_nextRow_69 fl_X7_67 (x_vM hn (Nat.le_of_ble_eq_true rfl) (Nat.le_of_ble_eq_true rfl)) rfl rfl rfl ?_
    refine g_iload_n dX7_nextRow_72 rfl ?_
    refine g_iald kx dX7_nextRow_73 rfl (show kx < 6 by omega) (x_vM hn (Nat.le_of_ble_eq_true rfl) (Nat.le_of_ble_eq_true rfl)) rfl ?_
    refine g_istore_n (lv' := [_, _, _, _]) dX7_nextRow_74 (Nat.le_of_ble_eq_true rfl) rfl ?_
    refine g_aload_n dX7_nextRow_75 rfl ?_
    refine g_getR (t2 := 44) (i2 := 0) dX7_nextRow_76 fl_X7_67 (x_vM hn (Nat.le_of_ble_eq_true rfl) (Nat.le_of_ble_eq_true rfl)) rfl rfl rfl ?_
    refine g_iload_n dX7_nextRow_79 rfl ?_
    refine g_aload_n dX7_nextRow_80 rfl ?_
    refine g_getR (t2 := 44) (i2 := 0) dX7_nextRow_81 fl_X7_67 (x_vM hn (Nat.le_of_ble_eq_true rfl) (Nat.le_of_ble_eq_true rfl)) rfl rfl rfl ?_
    refine g_iload_n dX7_nextRow_84 rfl ?_
    refine g_iald (b.toNat) dX7_nextRow_85 rfl (show b.toNat < 6 by omega) (x_vM hn (Nat.le_of_ble_eq_true rfl) (Nat.le_of_ble_eq_true rfl)) rfl ?_
    refine g_iast kx dX7_nextRow_86 rfl (show kx < 6 by omega) (x_vM hn (Nat.le_of_ble_eq_true rfl) (Nat.le_of_ble_eq_true rfl)) rfl ?_
    refine g_aload_n dX7_nextRow_87 rfl ?_
    refine g_getR (t2 := 44) (i2 := 0) dX7_nextRow_88 fl_X7_67 (x_vM hn (Nat.le_of_ble_eq_true rfl) (Nat.le_of_ble_eq_true rfl)) rfl rfl rfl ?_
    refine g_iload_n dX7_nextRow_91 rfl ?_
    refine g_iload_n dX7_nextRow_92 rfl ?_
    refine g_iast (b.toNat) dX7_nextRow_93 rfl (show b.toNat < 6 by omega) (x_vM hn (Nat.le_of_ble_eq_true rfl) (Nat.le_of_ble_eq_true rfl)) rfl ?_
    refine g_aload_n dX7_nextRow_94 rfl ?_
    refine g_getI dX7_nextRow_95 fl_X7_223 (x_vM hn (Nat.le_of_ble_eq_true rfl) (Nat.le_of_ble_eq_true rfl)) rfl rfl ?_
    refine g_iconst dX7_nextRow_98 ?_
    refine g_isub dX7_nextRow_99 ?_
    refine g_istore (lv' := [_, _, _, _, _]) dX7_nextRow_100 (Nat.le_of_ble_eq_true rfl) rfl ?_
    refine g_iload_n dX7_nextRow_102 rfl ?_
    refine g_iconst dX7_nextRow_103 ?_
    refine g_iadd dX7_nextRow_104 ?_
    refine g_eqI (((kx + 1) : Nat) : Int) rfl ?_
    refine g_istore (lv' := [_, _, _, _, _, _]) dX7_nextRow_105 (Nat.le_of_ble_eq_true rfl) rfl ?_
    refine g_sub (lv2 := [(5, xI (((kx + 1) : Nat) : Int)), _, _]) [0, 1, 5] rfl ?_
    exact f_cv rfl rfl (lh_X7_nextRow_107 l n R hn hR 6  _ (kx + 1) _ (by first | (rw [hrm]; omega) | (simp (disch := first | omega | assumption) only [x_up_o, x_up_k]; rw [hrm]; omega)) (by first | exact hrm | (simp (disch := omega) only [x_up_o, x_up_k, x_cp_o]; exact hrm) | (simp (disch := first | omega | assumption) only [x_up_o, x_up_k, x_cp_o]; exact hrm)))
  | succ k ih =>
    intro  σ kx b hk hrm
    have hB : b = ((b.toNat : Nat) : Int) := by omega
    refine g_lveq (lv2 := [(1, xI (kx : Int)), (2, xI ((b.toNat : Nat) : Int)), (0, xR 24 0)]) (by rw [← hB] <;> rfl) ?_
    refine g_aload_n dX7_nextRow_47 rfl ?_
    refine g_getR (t2 := 44) (i2 := 0) dX7_nextRow_48 fl_X7_67 (x_vM hn (Nat.le_of_ble_eq_true rfl) (Nat.le_of_ble_eq_true rfl)) rfl rfl rfl ?_
    refine g_iload_n dX7_nextRow_51 rfl ?_
    refine g_iald (b.toNat) dX7_nextRow_52 rfl (show b.toNat < 6 by omega) (x_vM hn (Nat.le_of_ble_eq_true rfl) (Nat.le_of_ble_eq_true rfl)) rfl ?_
    refine g_aload_n dX7_nextRow_53 rfl ?_
    refine g_getR (t2 := 44) (i2 := 0) dX7_nextRow_54 fl_X7_67 (x_vM hn (Nat.le_of_ble_eq_true rfl) (Nat.le_of_ble_eq_true rfl)) rfl rfl rfl ?_
    refine g_iload_n dX7_nextRow_57 rfl ?_
    refine g_iald kx dX7_nextRow_58 rfl (show kx < 6 by omega) (x_vM hn (Nat.le_of_ble_eq_true rfl) (Nat.le_of_ble_eq_true rfl)) rfl ?_
    refine g_cmp_ge 68 dX7_nextRow_59 rfl (fun c_59 => ?_) (fun c_59 => ?_)
    · refine g_aload_n dX7_nextRow_68 rfl ?_
      refine g_getR (t2 := 44) (i2 := 0) dX7_nextRow_69 fl_X7_67 (x_vM hn (Nat.le_of_ble_eq_true rfl) (Nat.le_of_ble_eq_true rfl)) rfl rfl rfl ?_
      refine g_iload_n dX7_nextRow_72 rfl ?_
      refine g_iald kx dX7_nextRow_73 rfl (show kx < 6 by omega) (x_vM hn (Nat.le_of_ble_eq_true rfl) (Nat.le_of_ble_eq_true rfl)) rfl ?_
      refine g_istore_n (lv' := [_, _, _, _]) dX7_nextRow_74 (Nat.le_of_ble_eq_true rfl) rfl ?_
      refine g_aload_n dX7_nextRow_75 rfl ?_
      refine g_getR (t2 := 44) (i2 := 0) dX7_nextRow_76 fl_X7_67 (x_vM hn (Nat.le_of_ble_eq_true rfl) (Nat.le_of_ble_eq_true rfl)) rfl rfl rfl ?_
      refine g_iload_n dX7_nextRow_79 rfl ?_
      refine g_aload_n dX7_nextRow_80 rfl ?_
      refine g_getR (t2 := 44) (i2 := 0) dX7_nextRow_81 fl_X7_67 (x_vM hn (Nat.le_of_ble_eq_true rfl) (Nat.le_of_ble_eq_true rfl)) rfl rfl rfl ?_
      refine g_iload_n dX7_nextRow_84 rfl ?_
      refine g_iald (b.toNat) dX7_nextRow_85 rfl (show b.toNat < 6 by omega) (x_vM hn (Nat.le_of_ble_eq_true rfl) (Nat.le_of_ble_eq_true rfl)) rfl ?_
      refine g_iast kx dX7_nextRow_86 rfl (show kx < 6 by omega) (x_vM hn (Nat.le_of_ble_eq_true rfl) (Nat.le_of_ble_eq_true rfl)) rfl ?_
      refine g_aload_n dX7_nextRow_87 rfl ?_
      refine g_getR (t2 := 44) (i2 := 0) dX7_nextRow_88 fl_X7_67 (x_vM hn (Nat.le_of_ble_eq_true rfl) (Nat.le_of_ble_eq_true rfl)) rfl rfl rfl ?_
      refine g_iload_n dX7_nextRow_91 rfl ?_
      refine g_iload_n dX7_nextRow_92 rfl ?_
      refine g_iast (b.toNat) dX7_nextRow_93 rfl (show b.toNat < 6 by omega) (x_vM hn (Nat.le_of_ble_eq_true rfl) (Nat.le_of_ble_eq_true rfl)) rfl ?_
      refine g_aload_n dX7_nextRow_94 rfl ?_
      refine g_getI dX7_nextRow_95 fl_X7_223 (x_vM hn (Nat.le_of_ble_eq_true rfl) (Nat.le_of_ble_eq_true rfl)) rfl rfl ?_
      refine g_iconst dX7_nextRow_98 ?_
      refine g_isub dX7_nextRow_99 ?_
      refine g_istore (lv' := [_, _, _, _, _]) dX7_nextRow_100 (Nat.le_of_ble_eq_true rfl) rfl ?_
      refine g_iload_n dX7_nextRow_102 rfl ?_
      refine g_iconst dX7_nextRow_103 ?_
      refine g_iadd dX7_nextRow_104 ?_
      refine g_eqI (((kx + 1) : Nat) : Int) rfl ?_
      refine g_istore (lv' := [_, _, _, _, _, _]) dX7_nextRow_105 (Nat.le_of_ble_eq_true rfl) rfl ?_
      refine g_sub (lv2 := [(5, xI (((kx + 1) : Nat) : Int)), _, _]) [0, 1, 5] rfl ?_
      exact f_cv (by rw [RV_X7_nextRow_47, if_pos c_59]) (by rw [RS_X7_nextRow_47, if_pos c_59]) (lh_X7_nextRow_107 l n R hn hR 6  _ (kx + 1) _ (by first | (rw [hrm]; omega) | (simp (disch := first | omega | assumption) only [x_up_o, x_up_k]; rw [hrm]; omega)) (by first | exact hrm | (simp (disch := omega) only [x_up_o, x_up_k, x_cp_o]; exact hrm) | (simp (disch := first | omega | assumption) only [x_up_o, x_up_k, x_cp_o]; exact hrm)))
    · refine g_iinc (lv' := [_, _, _]) dX7_nextRow_62 (Nat.le_of_ble_eq_true rfl) rfl rfl ?_
      refine g_goto 47 dX7_nextRow_65 rfl ?_
      refine g_sub (lv2 := [(1, xI ((kx : Nat) : Int)), _, _]) [1, 0, 2] rfl ?_
      exact f_cv (by rw [RV_X7_nextRow_47, if_neg c_59]) (by rw [RS_X7_nextRow_47, if_neg c_59]) (ih  _ kx _ (by have hne : b.toNat ≠ kx + 1 := fun z => c_59 (by rw [z]; exact hk.2.2.2); exact ⟨by omega, by omega, by omega, hk.2.2.2⟩) hrm)
def RV_X7_nextRow_7 (R : Nat) : Nat → xMi → Int → Int
  | 0, σ, a => 0
  | k + 1, σ, a => (if x_wr a < 0 then 0 else (if x_wr (σ 44 0 (a.toNat)) ≤ x_wr (σ 44 0 (a.toNat + 1)) then (RV_X7_nextRow_47 R 6  σ a.toNat ((σ 24 0 31) - 1)) else (RV_X7_nextRow_7 R k σ (((a.toNat : Nat) : Int) + (-1)))))
def RS_X7_nextRow_7 (R : Nat) : Nat → xMi → Int → xMi
  | 0, σ, a => σ
  | k + 1, σ, a => (if x_wr a < 0 then σ else (if x_wr (σ 44 0 (a.toNat)) ≤ x_wr (σ 44 0 (a.toNat + 1)) then (RS_X7_nextRow_47 R 6  σ a.toNat ((σ 24 0 31) - 1)) else (RS_X7_nextRow_7 R k σ (((a.toNat : Nat) : Int) + (-1)))))
theorem fr_RS_X7_nextRow_7 (R : Nat) {t i k' : Nat} (h : ¬ (t = 44)) : ∀ (k : Nat) (σ : xMi) (a : Int), RS_X7_nextRow_7 R k σ a t i k' = σ t i k' := by
  intro k
  induction k with
  | zero =>
    intro σ a
    simp only [RS_X7_nextRow_7]
    all_goals ((repeat' split) <;> simp (disch := first | omega | assumption) only [x_up_o, x_up_k, x_cp_o])
  | succ k ih =>
    intro σ a
    simp only [RS_X7_nextRow_7]
    all_goals (repeat' split)
    all_goals (first | rw [ih] | skip)
    all_goals first | done | simp (disch := first | omega | assumption) only [x_up_o, x_up_k, x_cp_o, fr_RS_X7_nextRow_47]
theorem lh_X7_nextRow_7 (l : Launch) (n : Nat)  (R : Nat) (hn : 154 ≤ n) (hR : R ≤ 6) : ∀ (k  : Nat) (σ : xMi) (a : Int), -2 ≤ a ∧ a + 2 ≤ (R : Int) ∧ a + 2 ≤ (k : Int) → (σ 24 0 31 = (R : Int)) →  x_G l RX7 cX7_nextRow 7 (some .boolean) 0 n (some (xI (RV_X7_nextRow_7 R k  σ a))) (RS_X7_nextRow_7 R k  σ a) 7 [(1, xI a), (0, xR 24 0)] [] σ := by
  intro k
  induction k with
  | zero =>
    intro  σ a hk hrm
    refine g_iload_n dX7_nextRow_7 rfl ?_
    refine g_if_lt 34 dX7_nextRow_8 rfl (fun c_8 => ?_) (fun c_8 => absurd (by rw [x_wr_of (by omega) (by omega)]; omega) c_8)
    refine g_iload_n dX7_nextRow_34 rfl ?_
    refine g_if_ge 40 dX7_nextRow_35 rfl (fun c_35 => absurd c_35 (by rw [x_wr_of (by omega) (by omega)]; omega)) (fun c_35 => ?_)
    refine g_iconst dX7_nextRow_38 ?_
    exact f_zret dX7_nextRow_39 (by decide) rfl rfl
  | succ k ih =>
    intro  σ a hk hrm
    refine g_iload_n dX7_nextRow_7 rfl ?_
    refine g_if_lt 34 dX7_nextRow_8 rfl (fun c_8 => ?_) (fun c_8 => ?_)
    · refine g_iload_n dX7_nextRow_34 rfl ?_
      refine g_if_ge 40 dX7_nextRow_35 rfl (fun c_35 => absurd c_35 (by omega)) (fun c_35 => ?_)
      refine g_iconst dX7_nextRow_38 ?_
      exact f_zret dX7_nextRow_39 (by decide) (by rw [RV_X7_nextRow_7, if_pos c_8]) (by rw [RS_X7_nextRow_7, if_pos c_8])
    · have hA : a = ((a.toNat : Nat) : Int) := by rw [x_wr_of (by omega) (by omega)] at c_8; omega
      refine g_lveq (lv2 := [(1, xI ((a.toNat : Nat) : Int)), (0, xR 24 0)]) (by rw [← hA] <;> rfl) ?_
      refine g_aload_n dX7_nextRow_11 rfl ?_
      refine g_getR (t2 := 44) (i2 := 0) dX7_nextRow_12 fl_X7_67 (x_vM hn (Nat.le_of_ble_eq_true rfl) (Nat.le_of_ble_eq_true rfl)) rfl rfl rfl ?_
      refine g_iload_n dX7_nextRow_15 rfl ?_
      refine g_iald (a.toNat) dX7_nextRow_16 rfl (show a.toNat < 6 by omega) (x_vM hn (Nat.le_of_ble_eq_true rfl) (Nat.le_of_ble_eq_true rfl)) rfl ?_
      refine g_aload_n dX7_nextRow_17 rfl ?_
      refine g_getR (t2 := 44) (i2 := 0) dX7_nextRow_18 fl_X7_67 (x_vM hn (Nat.le_of_ble_eq_true rfl) (Nat.le_of_ble_eq_true rfl)) rfl rfl rfl ?_
      refine g_iload_n dX7_nextRow_21 rfl ?_
      refine g_iconst dX7_nextRow_22 ?_
      refine g_iadd dX7_nextRow_23 ?_
      refine g_eqI (((a.toNat + 1) : Nat) : Int) rfl ?_
      refine g_iald (a.toNat + 1) dX7_nextRow_24 rfl (show (a.toNat + 1) < 6 by omega) (x_vM hn (Nat.le_of_ble_eq_true rfl) (Nat.le_of_ble_eq_true rfl)) rfl ?_
      refine g_cmp_le 34 dX7_nextRow_25 rfl (fun c_25 => ?_) (fun c_25 => ?_)
      · refine g_iload_n dX7_nextRow_34 rfl ?_
        refine g_if_ge 40 dX7_nextRow_35 rfl (fun c_35 => ?_) (fun c_35 => absurd (by rw [x_nat (by omega)]; omega) c_35)
        refine g_aload_n dX7_nextRow_40 rfl ?_
        refine g_getI dX7_nextRow_41 fl_X7_223 (x_vM hn (Nat.le_of_ble_eq_true rfl) (Nat.le_of_ble_eq_true rfl)) rfl rfl ?_
        refine g_iconst dX7_nextRow_44 ?_
        refine g_isub dX7_nextRow_45 ?_
        refine g_istore_n (lv' := [_, _, _]) dX7_nextRow_46 (Nat.le_of_ble_eq_true rfl) rfl ?_
        refine g_sub (lv2 := [(1, xI ((a.toNat : Nat) : Int)), _, _]) [1, 0, 2] rfl ?_
        exact f_cv (by rw [RV_X7_nextRow_7, if_neg c_8, if_pos c_25]) (by rw [RS_X7_nextRow_7, if_neg c_8, if_pos c_25]) (lh_X7_nextRow_47 l n R hn hR 6  _ (a.toNat) _ (by rw [hrm]; exact ⟨by omega, by omega, by omega, c_25⟩) hrm)
      · refine g_iinc (lv' := [_, _]) dX7_nextRow_28 (Nat.le_of_ble_eq_true rfl) rfl rfl ?_
        refine g_goto 7 dX7_nextRow_31 rfl ?_
        refine g_sub (lv2 := [_, _]) [0, 1] rfl ?_
        exact f_cv (by rw [RV_X7_nextRow_7, if_neg c_8, if_neg c_25]) (by rw [RS_X7_nextRow_7, if_neg c_8, if_neg c_25]) (ih  _ _ (by omega) hrm)
def V_X7_nextRow (σ : xMi) (R : Nat) : Int := (RV_X7_nextRow_7 R R  σ ((σ 24 0 31) - 2))
def S_X7_nextRow (σ : xMi) (R : Nat) : xMi := (RS_X7_nextRow_7 R R  σ ((σ 24 0 31) - 2))
theorem fr_S_X7_nextRow (σ : xMi) (R : Nat) {t i k : Nat} (h : ¬ (t = 44)) : S_X7_nextRow σ R t i k = σ t i k := by
  unfold S_X7_nextRow
  all_goals ((repeat' split) <;> first | rfl | simp (disch := first | omega | assumption) only [x_up_o, x_up_k, x_cp_o, fr_RS_X7_nextRow_7])
theorem c_X7_nextRow (l : Launch) (n : Nat) (σ : xMi)  (R : Nat) (hn : 154 ≤ n) (hR : R ≤ 6) (hrm : σ 24 0 31 = (R : Int))  : x_F l yX7_nextRow RX7 cX7_nextRow 7 (some .boolean) 0 n σ [xR 24 0] (some (xI (V_X7_nextRow σ R))) (S_X7_nextRow σ R) := by
  refine f_of (by decide) rfl (Nat.le_of_ble_eq_true rfl) rfl ?_
  refine g_aload_n dX7_nextRow_0 rfl ?_
  refine g_getI dX7_nextRow_1 fl_X7_223 (x_vM hn (Nat.le_of_ble_eq_true rfl) (Nat.le_of_ble_eq_true rfl)) rfl rfl ?_
  refine g_iconst dX7_nextRow_4 ?_
  refine g_isub dX7_nextRow_5 ?_
  refine g_istore_n (lv' := [_, _]) dX7_nextRow_6 (Nat.le_of_ble_eq_true rfl) rfl ?_
  refine g_sub (lv2 := [_, _]) [0, 1] rfl ?_
  exact f_cv rfl rfl (lh_X7_nextRow_7 l n R hn hR R  _ _ (by rw [hrm]; omega) hrm)
