/-- a row of references gets what it will have in the end -/
def x_fl0 (ρ : xMr) (t i : Nat) : xMr := fun t' i' k => if t' = t ∧ i' = i then x_r0 t i k else ρ t' i' k
abbrev x_QI (n : Nat) (ρ' : xMr) (σ' : xMi) : xP := fun r1 n1 ρ1 σ1 => r1 = none ∧ n1 = n ∧ ρ1 = ρ' ∧ σ1 = σ'
abbrev x_GI (l : Launch) (own : String) (cc : ByteArray) (nL : Nat) (d mc ms n' : Nat) (ρ' : xMr) (σ' : xMi) (n cu su pc : Nat) (lv : List (Nat × xV)) (st : List xV) (ρ : xMr) (σ : xMi) : Prop := xGo l own cc nL none (true, none) d mc ms (x_QI n' ρ' σ') n cu su pc lv st ρ σ
abbrev x_FI (l : Launch) (y : MethodName) (own : String) (cc : ByteArray) (nL : Nat) (d mc ms n : Nat) (ρ : xMr) (σ : xMi) (av : List xV) (ρ' : xMr) (σ' : xMi) : Prop := x_Sp l y (own, cc, nL, none, (true, none)) d mc ms n ρ σ av (x_QI (n + mc) ρ' σ')
theorem fi_of {l : Launch} {y : MethodName} {own : String} {cc : ByteArray} {nL : Nat} {d mc ms n : Nat} {ρ ρ' : xMr} {σ σ' : xMi} {av : List xV} {lv : List (Nat × xV)} (hy : plainName y.cls = true) (hown : y.cls = own) (hnm : y.name = "<init>") (hlen : (av.map x_cat).sum ≤ nL) (hlv : x_la 0 av = lv) (h : x_GI l own cc nL d mc ms (n + mc) ρ' σ' n 0 0 0 lv [] ρ σ) : x_FI l y own cc nL d mc ms n ρ σ av ρ' σ' := by
  subst hlv
  exact x_Sp.of hy hown (fun _ => hnm) hlen h
theorem fi_ret {l : Launch} {own : String} {cc : ByteArray} {nL : Nat} {d mc ms n' n cu su pc : Nat} {ρ ρ' : xMr} {σ σ' : xMi} {lv : List (Nat × xV)} (hd : decode cc pc = .ok (.return_, 1)) (hn : n = n') (hr : ρ = ρ') (hs : σ = σ') (hc : cu ≤ mc) (hs2 : su ≤ ms) : x_GI l own cc nL d mc ms n' ρ' σ' n cu su pc lv [] ρ σ := g_vret hd ⟨rfl, hn, hr, hs⟩ hc hs2
theorem zr_z {σ : xMi} {t i : Nat} (h : ∀ k, σ t i k = 0) : x_zr σ t i = σ := by
  funext t' i' k
  unfold x_zr
  split
  · rename_i z; rw [z.1, z.2, h]
  · rfl
theorem up_z {σ : xMi} {t i k : Nat} {v : Int} (h : σ t i k = v) : x_up σ t i k v = σ := by
  funext t' i' k'
  unfold x_up
  split
  · rename_i z; rw [z.1, z.2.1, z.2.2, h]
  · rfl
theorem iv_F : ∀ i, i < 20 → ∀ j, j ≤ 4 → x_od j i = x_od 0 i + j ∧ x_iv (x_od 0 i + j) = (j, i) ∧ x_od 0 i + j < 131 := by decide +kernel
theorem iv_R : ∀ i, i < 3 → ∀ j, j ≤ 4 → x_od (5 + j) i = x_od 5 i + j ∧ x_iv (x_od 5 i + j) = (5 + j, i) ∧ x_od 5 i + j < 131 := by decide +kernel
theorem iv_T : ∀ i, i < 1 → ∀ j, j ≤ 2 → x_od (10 + j) i = x_od 10 i + j ∧ x_iv (x_od 10 i + j) = (10 + j, i) ∧ x_od 10 i + j < 131 := by decide +kernel
theorem iv_S : ∀ i, i < 1 → ∀ j, j ≤ 3 → x_od (15 + j) i = x_od 15 i + j ∧ x_iv (x_od 15 i + j) = (15 + j, i) ∧ x_od 15 i + j < 131 := by decide +kernel
theorem iv_M : ∀ i, i < 1 → ∀ j, j ≤ 22 → x_od (24 + j) i = x_od 24 i + j ∧ x_iv (x_od 24 i + j) = (24 + j, i) ∧ x_od 24 i + j < 154 := by decide +kernel
theorem ur_s {ρ : xMr} {t i k : Nat} {v : Option (Nat × Nat)} {t' i' k' : Nat} : x_ur ρ t i k v t' i' k' = if t' = t ∧ i' = i ∧ k' = k then v else ρ t' i' k' := rfl
theorem c_X0_init (l : Launch) (i : Nat) (hi : i < 20) (ρ : xMr) (σ : xMi) (hz : ∀ j, j ≤ 4 → ∀ k, σ (0 + j) i k = 0) : x_FI l yX0_init RX0 cX0_init 2 1 4 24 (x_od 0 i + 1) (x_zn ρ 0 i) σ [xR 0 i, xR 5 (x_rof i)] (x_fl0 ρ 0 i) σ := by
  refine fi_of (by decide) rfl rfl (Nat.le_of_ble_eq_true rfl) rfl ?_
  refine g_aload_n dX0_init_0 rfl ?_
  refine g_oinit dX0_init_1 cx_X0_3 w_oi.1 w_oi.2 (by decide) (Nat.le_of_ble_eq_true rfl) ?_
  refine g_aload_n dX0_init_4 rfl ?_
  refine g_bipush dX0_init_5 (by decide) ?_
  refine g_newarr (t := 1) (i := i) 0 dX0_init_7 (Or.inl (Nat.succ_pos _)) ac_int (Or.inl ⟨rfl, rfl⟩) rfl rfl (by have := (iv_F i hi 1 (by decide)).2.2; omega) (iv_F i hi 1 (by decide)).2.1 (iv_F i hi 1 (by decide)).1 (Nat.le_of_ble_eq_true rfl) (Nat.le_of_ble_eq_true rfl) ?_
  refine g_mem _ (zr_z (hz 1 (by decide))) ?_
  refine g_putR rfl dX0_init_9 fl_X0_9 ⟨(iv_F i hi 0 (Nat.zero_le _)).2.1, by have := (iv_F i hi 0 (Nat.zero_le _)).1; omega⟩ rfl rfl (fun q h => by cases h; rfl) ?_
  refine g_aload_n dX0_init_12 rfl ?_
  refine g_bipush dX0_init_13 (by decide) ?_
  refine g_newarr (t := 2) (i := i) 0 dX0_init_15 (Or.inl (Nat.succ_pos _)) ac_int (Or.inl ⟨rfl, rfl⟩) rfl rfl (by have := (iv_F i hi 2 (by decide)).2.2; omega) (iv_F i hi 2 (by decide)).2.1 (iv_F i hi 2 (by decide)).1 (Nat.le_of_ble_eq_true rfl) (Nat.le_of_ble_eq_true rfl) ?_
  refine g_mem _ (zr_z (hz 2 (by decide))) ?_
  refine g_putR rfl dX0_init_17 fl_X0_15 ⟨(iv_F i hi 0 (Nat.zero_le _)).2.1, by have := (iv_F i hi 0 (Nat.zero_le _)).1; omega⟩ rfl rfl (fun q h => by cases h; rfl) ?_
  refine g_aload_n dX0_init_20 rfl ?_
  refine g_bipush dX0_init_21 (by decide) ?_
  refine g_newarr (t := 3) (i := i) 0 dX0_init_23 (Or.inl (Nat.succ_pos _)) ac_int (Or.inl ⟨rfl, rfl⟩) rfl rfl (by have := (iv_F i hi 3 (by decide)).2.2; omega) (iv_F i hi 3 (by decide)).2.1 (iv_F i hi 3 (by decide)).1 (Nat.le_of_ble_eq_true rfl) (Nat.le_of_ble_eq_true rfl) ?_
  refine g_mem _ (zr_z (hz 3 (by decide))) ?_
  refine g_putR rfl dX0_init_25 fl_X0_18 ⟨(iv_F i hi 0 (Nat.zero_le _)).2.1, by have := (iv_F i hi 0 (Nat.zero_le _)).1; omega⟩ rfl rfl (fun q h => by cases h; rfl) ?_
  refine g_aload_n dX0_init_28 rfl ?_
  refine g_bipush dX0_init_29 (by decide) ?_
  refine g_newarr (t := 4) (i := i) 0 dX0_init_31 (Or.inl (Nat.succ_pos _)) ac_int (Or.inl ⟨rfl, rfl⟩) rfl rfl (by have := (iv_F i hi 4 (by decide)).2.2; omega) (iv_F i hi 4 (by decide)).2.1 (iv_F i hi 4 (by decide)).1 (Nat.le_of_ble_eq_true rfl) (Nat.le_of_ble_eq_true rfl) ?_
  refine g_mem _ (zr_z (hz 4 (by decide))) ?_
  refine g_putR rfl dX0_init_33 fl_X0_21 ⟨(iv_F i hi 0 (Nat.zero_le _)).2.1, by have := (iv_F i hi 0 (Nat.zero_le _)).1; omega⟩ rfl rfl (fun q h => by cases h; rfl) ?_
  refine g_aload_n dX0_init_36 rfl ?_
  refine g_iconst dX0_init_37 ?_
  refine g_putI dX0_init_38 fl_X0_24 ⟨(iv_F i hi 0 (Nat.zero_le _)).2.1, by have := (iv_F i hi 0 (Nat.zero_le _)).1; omega⟩ rfl rfl ?_
  refine g_mem _ (up_z (hz 0 (by decide) 5)) ?_
  refine g_aload_n dX0_init_41 rfl ?_
  refine g_iconst dX0_init_42 ?_
  refine g_putI dX0_init_43 fl_X0_28 ⟨(iv_F i hi 0 (Nat.zero_le _)).2.1, by have := (iv_F i hi 0 (Nat.zero_le _)).1; omega⟩ rfl rfl ?_
  refine g_mem _ (up_z (hz 0 (by decide) 6)) ?_
  refine g_aload_n dX0_init_46 rfl ?_
  refine g_iconst dX0_init_47 ?_
  refine g_putI dX0_init_48 fl_X0_31 ⟨(iv_F i hi 0 (Nat.zero_le _)).2.1, by have := (iv_F i hi 0 (Nat.zero_le _)).1; omega⟩ rfl rfl ?_
  refine g_mem _ (up_z (hz 0 (by decide) 7)) ?_
  refine g_aload_n dX0_init_51 rfl ?_
  refine g_iconst dX0_init_52 ?_
  refine g_putI dX0_init_53 fl_X0_34 ⟨(iv_F i hi 0 (Nat.zero_le _)).2.1, by have := (iv_F i hi 0 (Nat.zero_le _)).1; omega⟩ rfl rfl ?_
  refine g_mem _ (up_z (hz 0 (by decide) 8)) ?_
  refine g_aload_n dX0_init_56 rfl ?_
  refine g_iconst dX0_init_57 ?_
  refine g_putI dX0_init_58 fl_X0_37 ⟨(iv_F i hi 0 (Nat.zero_le _)).2.1, by have := (iv_F i hi 0 (Nat.zero_le _)).1; omega⟩ rfl rfl ?_
  refine g_mem _ (up_z (hz 0 (by decide) 9)) ?_
  refine g_aload_n dX0_init_61 rfl ?_
  refine g_iconst dX0_init_62 ?_
  refine g_putI dX0_init_63 fl_X0_40 ⟨(iv_F i hi 0 (Nat.zero_le _)).2.1, by have := (iv_F i hi 0 (Nat.zero_le _)).1; omega⟩ rfl rfl ?_
  refine g_mem _ (up_z (hz 0 (by decide) 10)) ?_
  refine g_aload_n dX0_init_66 rfl ?_
  refine g_iconst dX0_init_67 ?_
  refine g_putZ dX0_init_68 fl_X0_43 ⟨(iv_F i hi 0 (Nat.zero_le _)).2.1, by have := (iv_F i hi 0 (Nat.zero_le _)).1; omega⟩ rfl rfl rfl ?_
  refine g_mem _ (up_z (hz 0 (by decide) 11)) ?_
  refine g_aload_n dX0_init_71 rfl ?_
  refine g_aload_n dX0_init_72 rfl ?_
  refine g_putR rfl dX0_init_73 fl_X0_47 ⟨(iv_F i hi 0 (Nat.zero_le _)).2.1, by have := (iv_F i hi 0 (Nat.zero_le _)).1; omega⟩ rfl rfl (fun q h => by cases h; rfl) ?_
  refine fi_ret dX0_init_76 rfl ?_ rfl (Nat.le_refl _) (Nat.le_refl _)
  funext t i1 k
  by_cases hti : t = 0 ∧ i1 = i
  · obtain ⟨rfl, rfl⟩ := hti
    simp only [x_fl0, x_ur, x_zn, true_and, and_self, if_true]
    unfold x_r0
    simp only []
    (repeat' split) <;> first | rfl | omega | (subst_vars; rfl) | skip
  · have h1 : ∀ k2, ¬ (t = 0 ∧ i1 = i ∧ k = k2) := fun k2 z => hti ⟨z.1, z.2.1⟩
    simp only [x_fl0, x_ur, x_zn, hti, h1, if_false]

theorem c_X3_init (l : Launch) (i : Nat) (hi : i < 3) (ρ : xMr) (σ : xMi) (hz : ∀ j, j ≤ 4 → ∀ k, σ (5 + j) i k = 0) : x_FI l yX3_init RX3 cX3_init 1 1 4 24 (x_od 5 i + 1) (x_zn ρ 5 i) σ [xR 5 i] (x_fl0 ρ 5 i) (x_up σ 5 i 5 3) := by
  refine fi_of (by decide) rfl rfl (Nat.le_of_ble_eq_true rfl) rfl ?_
  refine g_aload_n dX3_init_0 rfl ?_
  refine g_oinit dX3_init_1 cx_X3_3 w_oi.1 w_oi.2 (by decide) (Nat.le_of_ble_eq_true rfl) ?_
  refine g_aload_n dX3_init_4 rfl ?_
  refine g_bipush dX3_init_5 (by decide) ?_
  refine g_newarr (t := 6) (i := i) 0 dX3_init_7 (Or.inl (Nat.succ_pos _)) ac_int (Or.inl ⟨rfl, rfl⟩) rfl rfl (by have := (iv_R i hi 1 (by decide)).2.2; omega) (iv_R i hi 1 (by decide)).2.1 (iv_R i hi 1 (by decide)).1 (Nat.le_of_ble_eq_true rfl) (Nat.le_of_ble_eq_true rfl) ?_
  refine g_mem _ (zr_z (hz 1 (by decide))) ?_
  refine g_putR rfl dX3_init_9 fl_X3_9 ⟨(iv_R i hi 0 (Nat.zero_le _)).2.1, by have := (iv_R i hi 0 (Nat.zero_le _)).1; omega⟩ rfl rfl (fun q h => by cases h; rfl) ?_
  refine g_aload_n dX3_init_12 rfl ?_
  refine g_bipush dX3_init_13 (by decide) ?_
  refine g_newarr (t := 7) (i := i) 0 dX3_init_15 (Or.inl (Nat.succ_pos _)) ac_int (Or.inl ⟨rfl, rfl⟩) rfl rfl (by have := (iv_R i hi 2 (by decide)).2.2; omega) (iv_R i hi 2 (by decide)).2.1 (iv_R i hi 2 (by decide)).1 (Nat.le_of_ble_eq_true rfl) (Nat.le_of_ble_eq_true rfl) ?_
  refine g_mem _ (zr_z (hz 2 (by decide))) ?_
  refine g_putR rfl dX3_init_17 fl_X3_15 ⟨(iv_R i hi 0 (Nat.zero_le _)).2.1, by have := (iv_R i hi 0 (Nat.zero_le _)).1; omega⟩ rfl rfl (fun q h => by cases h; rfl) ?_
  refine g_aload_n dX3_init_20 rfl ?_
  refine g_bipush dX3_init_21 (by decide) ?_
  refine g_newarr (t := 8) (i := i) 0 dX3_init_23 (Or.inl (Nat.succ_pos _)) ac_int (Or.inl ⟨rfl, rfl⟩) rfl rfl (by have := (iv_R i hi 3 (by decide)).2.2; omega) (iv_R i hi 3 (by decide)).2.1 (iv_R i hi 3 (by decide)).1 (Nat.le_of_ble_eq_true rfl) (Nat.le_of_ble_eq_true rfl) ?_
  refine g_mem _ (zr_z (hz 3 (by decide))) ?_
  refine g_putR rfl dX3_init_25 fl_X3_18 ⟨(iv_R i hi 0 (Nat.zero_le _)).2.1, by have := (iv_R i hi 0 (Nat.zero_le _)).1; omega⟩ rfl rfl (fun q h => by cases h; rfl) ?_
  refine g_aload_n dX3_init_28 rfl ?_
  refine g_bipush dX3_init_29 (by decide) ?_
  refine g_newarr (t := 9) (i := i) 0 dX3_init_31 (Or.inl (Nat.succ_pos _)) ac_int (Or.inl ⟨rfl, rfl⟩) rfl rfl (by have := (iv_R i hi 4 (by decide)).2.2; omega) (iv_R i hi 4 (by decide)).2.1 (iv_R i hi 4 (by decide)).1 (Nat.le_of_ble_eq_true rfl) (Nat.le_of_ble_eq_true rfl) ?_
  refine g_mem _ (zr_z (hz 4 (by decide))) ?_
  refine g_putR rfl dX3_init_33 fl_X3_21 ⟨(iv_R i hi 0 (Nat.zero_le _)).2.1, by have := (iv_R i hi 0 (Nat.zero_le _)).1; omega⟩ rfl rfl (fun q h => by cases h; rfl) ?_
  refine g_aload_n dX3_init_36 rfl ?_
  refine g_iconst dX3_init_37 ?_
  refine g_putI dX3_init_38 fl_X3_24 ⟨(iv_R i hi 0 (Nat.zero_le _)).2.1, by have := (iv_R i hi 0 (Nat.zero_le _)).1; omega⟩ rfl rfl ?_
  refine g_mem _ (up_z (hz 0 (by decide) 4)) ?_
  refine g_aload_n dX3_init_41 rfl ?_
  refine g_iconst dX3_init_42 ?_
  refine g_putI dX3_init_43 fl_X3_28 ⟨(iv_R i hi 0 (Nat.zero_le _)).2.1, by have := (iv_R i hi 0 (Nat.zero_le _)).1; omega⟩ rfl rfl ?_
  refine fi_ret dX3_init_46 rfl ?_ rfl (Nat.le_refl _) (Nat.le_refl _)
  funext t i1 k
  by_cases hti : t = 5 ∧ i1 = i
  · obtain ⟨rfl, rfl⟩ := hti
    simp only [x_fl0, x_ur, x_zn, true_and, and_self, if_true]
    unfold x_r0
    simp only []
    (repeat' split) <;> first | rfl | omega | (subst_vars; rfl) | skip
  · have h1 : ∀ k2, ¬ (t = 5 ∧ i1 = i ∧ k = k2) := fun k2 z => hti ⟨z.1, z.2.1⟩
    simp only [x_fl0, x_ur, x_zn, hti, h1, if_false]

theorem c_X5_init (l : Launch) (i : Nat) (hi : i < 1) (ρ : xMr) (σ : xMi) (hz : ∀ j, j ≤ 2 → ∀ k, σ (10 + j) i k = 0) : x_FI l yX5_init RX5 cX5_init 1 1 2 204 (x_od 10 i + 1) (x_zn ρ 10 i) σ [xR 10 i] (x_fl0 ρ 10 i) σ := by
  refine fi_of (by decide) rfl rfl (Nat.le_of_ble_eq_true rfl) rfl ?_
  refine g_aload_n dX5_init_0 rfl ?_
  refine g_oinit dX5_init_1 cx_X5_3 w_oi.1 w_oi.2 (by decide) (Nat.le_of_ble_eq_true rfl) ?_
  refine g_aload_n dX5_init_4 rfl ?_
  refine g_sipush dX5_init_5 (by decide) ?_
  refine g_newarr (t := 11) (i := i) 1 dX5_init_8 (Or.inl (Nat.succ_pos _)) ac_char (Or.inr (Or.inl ⟨rfl, rfl⟩)) rfl rfl (by have := (iv_T i hi 1 (by decide)).2.2; omega) (iv_T i hi 1 (by decide)).2.1 (iv_T i hi 1 (by decide)).1 (Nat.le_of_ble_eq_true rfl) (Nat.le_of_ble_eq_true rfl) ?_
  refine g_mem _ (zr_z (hz 1 (by decide))) ?_
  refine g_putR rfl dX5_init_10 fl_X5_9 ⟨(iv_T i hi 0 (Nat.zero_le _)).2.1, by have := (iv_T i hi 0 (Nat.zero_le _)).1; omega⟩ rfl rfl (fun q h => by cases h; rfl) ?_
  refine g_aload_n dX5_init_13 rfl ?_
  refine g_iconst dX5_init_14 ?_
  refine g_newarr (t := 12) (i := i) 0 dX5_init_15 (Or.inl (Nat.succ_pos _)) ac_int (Or.inl ⟨rfl, rfl⟩) rfl rfl (by have := (iv_T i hi 2 (by decide)).2.2; omega) (iv_T i hi 2 (by decide)).2.1 (iv_T i hi 2 (by decide)).1 (Nat.le_of_ble_eq_true rfl) (Nat.le_of_ble_eq_true rfl) ?_
  refine g_mem _ (zr_z (hz 2 (by decide))) ?_
  refine g_putR rfl dX5_init_17 fl_X5_15 ⟨(iv_T i hi 0 (Nat.zero_le _)).2.1, by have := (iv_T i hi 0 (Nat.zero_le _)).1; omega⟩ rfl rfl (fun q h => by cases h; rfl) ?_
  refine g_aload_n dX5_init_20 rfl ?_
  refine g_iconst dX5_init_21 ?_
  refine g_putI dX5_init_22 fl_X5_19 ⟨(iv_T i hi 0 (Nat.zero_le _)).2.1, by have := (iv_T i hi 0 (Nat.zero_le _)).1; omega⟩ rfl rfl ?_
  refine g_mem _ (up_z (hz 0 (by decide) 2)) ?_
  refine fi_ret dX5_init_25 rfl ?_ rfl (Nat.le_refl _) (Nat.le_refl _)
  funext t i1 k
  by_cases hti : t = 10 ∧ i1 = i
  · obtain ⟨rfl, rfl⟩ := hti
    simp only [x_fl0, x_ur, x_zn, true_and, and_self, if_true]
    unfold x_r0
    simp only []
    (repeat' split) <;> first | rfl | omega | (subst_vars; rfl) | skip
  · have h1 : ∀ k2, ¬ (t = 10 ∧ i1 = i ∧ k = k2) := fun k2 z => hti ⟨z.1, z.2.1⟩
    simp only [x_fl0, x_ur, x_zn, hti, h1, if_false]

theorem c_X4_init (l : Launch) (i : Nat) (hi : i < 1) (ρ : xMr) (σ : xMi) (hz : ∀ j, j ≤ 3 → ∀ k, σ (15 + j) i k = 0) : x_FI l yX4_init RX4 cX4_init 1 1 3 18 (x_od 15 i + 1) (x_zn ρ 15 i) σ [xR 15 i] (x_fl0 ρ 15 i) σ := by
  refine fi_of (by decide) rfl rfl (Nat.le_of_ble_eq_true rfl) rfl ?_
  refine g_aload_n dX4_init_0 rfl ?_
  refine g_oinit dX4_init_1 cx_X4_3 w_oi.1 w_oi.2 (by decide) (Nat.le_of_ble_eq_true rfl) ?_
  refine g_aload_n dX4_init_4 rfl ?_
  refine g_bipush dX4_init_5 (by decide) ?_
  refine g_newarr (t := 16) (i := i) 0 dX4_init_7 (Or.inl (Nat.succ_pos _)) ac_int (Or.inl ⟨rfl, rfl⟩) rfl rfl (by have := (iv_S i hi 1 (by decide)).2.2; omega) (iv_S i hi 1 (by decide)).2.1 (iv_S i hi 1 (by decide)).1 (Nat.le_of_ble_eq_true rfl) (Nat.le_of_ble_eq_true rfl) ?_
  refine g_mem _ (zr_z (hz 1 (by decide))) ?_
  refine g_putR rfl dX4_init_9 fl_X4_9 ⟨(iv_S i hi 0 (Nat.zero_le _)).2.1, by have := (iv_S i hi 0 (Nat.zero_le _)).1; omega⟩ rfl rfl (fun q h => by cases h; rfl) ?_
  refine g_aload_n dX4_init_12 rfl ?_
  refine g_bipush dX4_init_13 (by decide) ?_
  refine g_newarr (t := 17) (i := i) 0 dX4_init_15 (Or.inl (Nat.succ_pos _)) ac_int (Or.inl ⟨rfl, rfl⟩) rfl rfl (by have := (iv_S i hi 2 (by decide)).2.2; omega) (iv_S i hi 2 (by decide)).2.1 (iv_S i hi 2 (by decide)).1 (Nat.le_of_ble_eq_true rfl) (Nat.le_of_ble_eq_true rfl) ?_
  refine g_mem _ (zr_z (hz 2 (by decide))) ?_
  refine g_putR rfl dX4_init_17 fl_X4_15 ⟨(iv_S i hi 0 (Nat.zero_le _)).2.1, by have := (iv_S i hi 0 (Nat.zero_le _)).1; omega⟩ rfl rfl (fun q h => by cases h; rfl) ?_
  refine g_aload_n dX4_init_20 rfl ?_
  refine g_bipush dX4_init_21 (by decide) ?_
  refine g_newarr (t := 18) (i := i) 2 dX4_init_23 (Or.inl (Nat.succ_pos _)) ac_boolean (Or.inr (Or.inr ⟨rfl, rfl⟩)) rfl rfl (by have := (iv_S i hi 3 (by decide)).2.2; omega) (iv_S i hi 3 (by decide)).2.1 (iv_S i hi 3 (by decide)).1 (Nat.le_of_ble_eq_true rfl) (Nat.le_of_ble_eq_true rfl) ?_
  refine g_mem _ (zr_z (hz 3 (by decide))) ?_
  refine g_putR rfl dX4_init_25 fl_X4_18 ⟨(iv_S i hi 0 (Nat.zero_le _)).2.1, by have := (iv_S i hi 0 (Nat.zero_le _)).1; omega⟩ rfl rfl (fun q h => by cases h; rfl) ?_
  refine g_aload_n dX4_init_28 rfl ?_
  refine g_iconst dX4_init_29 ?_
  refine g_putI dX4_init_30 fl_X4_22 ⟨(iv_S i hi 0 (Nat.zero_le _)).2.1, by have := (iv_S i hi 0 (Nat.zero_le _)).1; omega⟩ rfl rfl ?_
  refine g_mem _ (up_z (hz 0 (by decide) 3)) ?_
  refine fi_ret dX4_init_33 rfl ?_ rfl (Nat.le_refl _) (Nat.le_refl _)
  funext t i1 k
  by_cases hti : t = 15 ∧ i1 = i
  · obtain ⟨rfl, rfl⟩ := hti
    simp only [x_fl0, x_ur, x_zn, true_and, and_self, if_true]
    unfold x_r0
    simp only []
    (repeat' split) <;> first | rfl | omega | (subst_vars; rfl) | skip
  · have h1 : ∀ k2, ¬ (t = 15 ∧ i1 = i ∧ k = k2) := fun k2 z => hti ⟨z.1, z.2.1⟩
    simp only [x_fl0, x_ur, x_zn, hti, h1, if_false]
