/-- a call of a constructor -/
theorem f_I {l : Launch} {own : String} {cc : ByteArray} {nL : Nat} {ret : Option FieldType} {ini : xB} {d mc ms : Nat} {Q : xP} {n cu su pc : Nat} {lv : List (Nat × xV)} {st rest : List xV} {ρ ρ1 : xMr} {σ σ1 : xMi} {t i idx : Nat} {y : MethodName} {own' : String} {cc' : ByteArray} {nL' : Nat} {d' mc' ms' na : Nat} {As : List xV} (hn0 : 0 < n) (hd : decode cc pc = .ok (.invokespecial idx, 3)) (hw : x_cI own idx y) (hb : x_cB y cc' nL' none na) (hSp : x_FI l y own' cc' nL' d' mc' ms' n ρ σ (xR t i :: As) ρ1 σ1) (hst : As.reverse ++ xR t i :: rest = st) (hna : As.length = na) (hcat : (rest.map x_cat).sum ≤ 8) (hdd : d' + 1 ≤ d) (hnl : nL' ≤ 80) (hc : cu + mc' ≤ mc) (hsl : su + ms' ≤ ms)
    (kk : xGo l own cc nL ret ini d mc ms Q (n + mc') (cu + mc') (su + ms') (pc + 3) lv rest ρ1 σ1) : xGo l own cc nL ret ini d mc ms Q n cu su pc lv st ρ σ := by
  subst hst
  refine x_callI hn0 hd hw hb hSp x_nw hna hcat hdd hnl hc hsl (fun r n' ρ' σ' h => h.2.1) (fun r n' ρ' σ' h => ?_)
  obtain ⟨rfl, rfl, rfl, rfl⟩ := h
  exact kk
theorem f_N {l : Launch} {own host : String} {cc : ByteArray} {nL : Nat} {ret : Option FieldType} {ini : xB} {d mc ms : Nat} {Q : xP} {n cu su pc : Nat} {lv : List (Nat × xV)} {st rest : List xV} {ρ ρ1 : xMr} {σ σ1 : xMi} {t i idx : Nat} {y : MethodName} {own' : String} {cc' : ByteArray} {nL' : Nat} {d' mc' ms' na : Nat} {As : List xV} (hn0 : 0 < n) (hd : decode cc pc = .ok (.invokespecial idx, 3)) (hw : x_cN own idx y host) (hb : x_cB y cc' nL' none na) (hSp : x_FI l y own' cc' nL' d' mc' ms' n ρ σ (xR t i :: As) ρ1 σ1) (hst : As.reverse ++ xR t i :: rest = st) (hna : As.length = na) (hcat : (rest.map x_cat).sum ≤ 8) (hdd : d' + 1 ≤ d) (hnl : nL' ≤ 80) (hc : cu + mc' ≤ mc) (hsl : su + ms' ≤ ms)
    (kk : xGo l own cc nL ret ini d mc ms Q (n + mc') (cu + mc') (su + ms') (pc + 3) lv rest ρ1 σ1) : xGo l own cc nL ret ini d mc ms Q n cu su pc lv st ρ σ := by
  subst hst
  refine x_callN hn0 hd hw hb hSp x_nw hna hcat hdd hnl hc hsl (fun r n' ρ' σ' h => h.2.1) (fun r n' ρ' σ' h => ?_)
  obtain ⟨rfl, rfl, rfl, rfl⟩ := h
  exact kk
/-- a row of references, the first j in place -/
def x_row (ρ : xMr) (t i j : Nat) : xMr := fun t' i' k => if t' = t ∧ i' = i then (if k < j then x_r0 t i k else none) else ρ t' i' k
theorem row_0 (ρ : xMr) (t i : Nat) : x_zn ρ t i = x_row ρ t i 0 := by
  funext t' i' k
  simp only [x_zn, x_row, Nat.not_lt_zero, if_false]
theorem row_s {ρ : xMr} {t i j f : Nat} {v : Option (Nat × Nat)} (ht : t ≠ 0) (hv : v = x_r0 t i j) : x_ur (x_fl0 (x_row ρ t i j) 0 f) t i j v = x_row (x_fl0 ρ 0 f) t i (j + 1) := by
  subst hv
  funext t' i' k
  simp only [x_ur, x_fl0, x_row]
  by_cases h0 : t' = t ∧ i' = i
  · obtain ⟨rfl, rfl⟩ := h0
    simp only [true_and, and_self, if_true]
    have hf : ¬ (t' = 0 ∧ i' = f) := fun z => ht z.1
    simp only [hf, if_false]
    by_cases hk : k = j
    · subst hk; rw [if_pos rfl, if_pos (Nat.lt_succ_self _)]
    · rw [if_neg hk]
      by_cases h1 : k < j
      · rw [if_pos h1, if_pos (by omega)]
      · rw [if_neg h1, if_neg (by omega)]
  · rw [if_neg (fun z => h0 ⟨z.1, z.2.1⟩), if_neg h0, if_neg h0]
theorem row_n {ρ : xMr} {t i j f : Nat} (ht : t ≠ 0) : x_zn (x_row ρ t i j) 0 f = x_zn (x_row ρ t i j) 0 f := rfl
theorem row_e {ρ : xMr} {t i j : Nat} (h : ∀ k, j ≤ k → x_r0 t i k = none) : x_row ρ t i j = x_fl0 ρ t i := by
  funext t' i' k
  simp only [x_row, x_fl0]
  split
  · split
    · rfl
    · rw [h k (by omega)]
  · rfl
/-- the Funds f, f + 1, .. k of them -/
def x_flF (ρ : xMr) : Nat → Nat → xMr
  | _, 0 => ρ
  | f, k + 1 => x_flF (x_fl0 ρ 0 f) (f + 1) k
theorem flF_o {t i k : Nat} (ht : t ≠ 0) : ∀ (m f : Nat) (ρ : xMr), x_flF ρ f m t i k = ρ t i k := by
  intro m
  induction m with
  | zero => intro f ρ; rfl
  | succ m ih => intro f ρ; rw [x_flF, ih]; simp only [x_fl0]; rw [if_neg (fun z => ht z.1)]

theorem lp_X2_init (l : Launch) (q b len n0 ms mc : Nat) (σ : xMi) (hzF : ∀ j, j ≤ 4 → ∀ f k, σ j f k = 0) (hlen : x_ln 14 q = len) (hl9 : len ≤ 8) (hod : ∀ j, j < len → x_od 0 (b + j) = n0 + 5 * j ∧ b + j < 20 ∧ x_rof (b + j) = 0 ∧ x_r0 14 q j = some (0, b + j)) (hvT : ∀ n, n0 ≤ n → x_vd n 13 q) (hvA : ∀ n, n0 ≤ n → x_vd n 14 q) (h00 : 0 < n0) : ∀ (k j : Nat) (ρ : xMr) (cu su : Nat), j + k = len → ρ 13 q 0 = some (14, q) → cu + 5 * k ≤ mc → su + 36 * k ≤ ms →
    x_GI l RX2 cX2_init 4 2 mc ms (n0 + 5 * len) (x_row (x_flF ρ (b + j) k) 14 q len) σ (n0 + 5 * j) cu su 28 [(3, xI ((j : Nat) : Int)), (0, xR 13 q), (1, xR 5 0)] [] (x_row ρ 14 q j) σ := by
  intro k
  induction k with
  | zero =>
    intro j ρ cu su hj h13 hc hs
    have hj2 : j = len := by omega
    subst hj2
    have h14 : (x_row ρ 14 q j) 13 q 0 = some (14, q) := by simp only [x_row]; rw [if_neg (by omega)]; exact h13
    refine g_iload_n dX2_init_28 rfl ?_
    refine g_aload_n dX2_init_29 rfl ?_
    refine g_getR (t2 := 14) (i2 := q) dX2_init_30 fl_X2_24 (hvT _ (by omega)) rfl rfl h14 ?_
    refine g_alen (v := (j : Int)) dX2_init_33 (hvA _ (by omega)) rfl (by rw [hlen]) ?_
    refine g_cmp_ge 57 dX2_init_34 rfl (fun _ => ?_) (fun c => absurd (Int.le_refl _) c)
    exact fi_ret dX2_init_57 rfl rfl rfl (by omega) (by omega)
  | succ k ih =>
    intro j ρ cu su hj h13 hc hs
    obtain ⟨o1, o2, o3, o4⟩ := hod j (by omega)
    have h14 : (x_row ρ 14 q j) 13 q 0 = some (14, q) := by simp only [x_row]; rw [if_neg (by omega)]; exact h13
    refine g_iload_n dX2_init_28 rfl ?_
    refine g_aload_n dX2_init_29 rfl ?_
    refine g_getR (t2 := 14) (i2 := q) dX2_init_30 fl_X2_24 (hvT _ (by omega)) rfl rfl h14 ?_
    refine g_alen (v := (len : Int)) dX2_init_33 (hvA _ (by omega)) rfl (by rw [hlen]) ?_
    refine g_cmp_ge 57 dX2_init_34 rfl (fun c => absurd c (by rw [x_nat (by omega), x_nat (by omega)]; omega)) (fun _ => ?_)
    refine g_aload_n dX2_init_37 rfl ?_
    refine g_getR (t2 := 14) (i2 := q) dX2_init_38 fl_X2_24 (hvT _ (by omega)) rfl rfl h14 ?_
    refine g_iload_n dX2_init_41 rfl ?_
    refine g_new (ci := 0) (C := RX0) (T := TX0) (N := 12) (t := 0) (i := b + j) dX2_init_42 (Or.inl (by omega)) rfl cl_X2_22 in_X0 ii_X0 rfl (by have := (iv_F (b + j) o2 0 (by decide)).2.2; omega) (by rw [← o1]; exact (iv_F (b + j) o2 0 (by decide)).2.1) o1 (by omega) (by omega) ?_
    refine g_mem _ (zr_z (fun k => hzF 0 (by decide) _ k)) ?_
    refine g_dup dX2_init_45 rfl ?_
    refine g_aload_n dX2_init_46 rfl ?_
    have hF := c_X0_init l (b + j) o2 (x_row ρ 14 q j) σ (fun a ha k => by rw [Nat.zero_add]; exact hzF a ha _ k)
    rw [o1, o3] at hF
    refine f_I (Nat.succ_pos _) dX2_init_47 cs_X2_28 mb_X0_init hF rfl rfl (Nat.le_of_ble_eq_true rfl) (by decide) (by decide) (by omega) (by omega) ?_
    refine g_aast j dX2_init_50 rfl (by rw [hlen]; omega) (hvA _ (by omega)) rfl ⟨by rw [o1, ← o1]; exact (iv_F (b + j) o2 0 (by decide)).2.1, by omega⟩ rfl ?_
    refine g_iinc (lv' := [(3, xI ((j + 1 : Nat) : Int)), _, _]) dX2_init_51 (Nat.le_of_ble_eq_true rfl) rfl rfl ?_
    refine g_goto 28 dX2_init_54 rfl ?_
    rw [row_s (by omega) o4.symm]
    have h := ih (j + 1) (x_fl0 ρ 0 (b + j)) (cu + 1 + 4) (su + 12 + 24) (by omega) (by simp only [x_fl0]; rw [if_neg (by omega)]; exact h13) (by omega) (by omega)
    rw [show n0 + 5 * (j + 1) = n0 + 5 * j + 1 + 4 by omega] at h
    exact h

theorem lp_X1_init (l : Launch) (q b len n0 ms mc : Nat) (σ : xMi) (hzF : ∀ j, j ≤ 4 → ∀ f k, σ j f k = 0) (hlen : x_ln 20 q = len) (hl9 : len ≤ 8) (hod : ∀ j, j < len → x_od 0 (b + j) = n0 + 5 * j ∧ b + j < 20 ∧ x_rof (b + j) = 0 ∧ x_r0 20 q j = some (0, b + j)) (hvT : ∀ n, n0 ≤ n → x_vd n 19 q) (hvA : ∀ n, n0 ≤ n → x_vd n 20 q) (h00 : 0 < n0) : ∀ (k j : Nat) (ρ : xMr) (cu su : Nat), j + k = len → ρ 19 q 0 = some (20, q) → cu + 5 * k ≤ mc → su + 36 * k ≤ ms →
    x_GI l RX1 cX1_init 3 2 mc ms (n0 + 5 * len) (x_row (x_flF ρ (b + j) k) 20 q len) σ (n0 + 5 * j) cu su 41 [(2, xI ((j : Nat) : Int)), (0, xR 19 q), (1, xR 5 0)] [] (x_row ρ 20 q j) σ := by
  intro k
  induction k with
  | zero =>
    intro j ρ cu su hj h13 hc hs
    have hj2 : j = len := by omega
    subst hj2
    have h14 : (x_row ρ 20 q j) 19 q 0 = some (20, q) := by simp only [x_row]; rw [if_neg (by omega)]; exact h13
    refine g_iload_n dX1_init_41 rfl ?_
    refine g_aload_n dX1_init_42 rfl ?_
    refine g_getR (t2 := 20) (i2 := q) dX1_init_43 fl_X1_11 (hvT _ (by omega)) rfl rfl h14 ?_
    refine g_alen (v := (j : Int)) dX1_init_46 (hvA _ (by omega)) rfl (by rw [hlen]) ?_
    refine g_cmp_ge 70 dX1_init_47 rfl (fun _ => ?_) (fun c => absurd (Int.le_refl _) c)
    exact fi_ret dX1_init_70 rfl rfl rfl (by omega) (by omega)
  | succ k ih =>
    intro j ρ cu su hj h13 hc hs
    obtain ⟨o1, o2, o3, o4⟩ := hod j (by omega)
    have h14 : (x_row ρ 20 q j) 19 q 0 = some (20, q) := by simp only [x_row]; rw [if_neg (by omega)]; exact h13
    refine g_iload_n dX1_init_41 rfl ?_
    refine g_aload_n dX1_init_42 rfl ?_
    refine g_getR (t2 := 20) (i2 := q) dX1_init_43 fl_X1_11 (hvT _ (by omega)) rfl rfl h14 ?_
    refine g_alen (v := (len : Int)) dX1_init_46 (hvA _ (by omega)) rfl (by rw [hlen]) ?_
    refine g_cmp_ge 70 dX1_init_47 rfl (fun c => absurd c (by rw [x_nat (by omega), x_nat (by omega)]; omega)) (fun _ => ?_)
    refine g_aload_n dX1_init_50 rfl ?_
    refine g_getR (t2 := 20) (i2 := q) dX1_init_51 fl_X1_11 (hvT _ (by omega)) rfl rfl h14 ?_
    refine g_iload_n dX1_init_54 rfl ?_
    refine g_new (ci := 0) (C := RX0) (T := TX0) (N := 12) (t := 0) (i := b + j) dX1_init_55 (Or.inl (by omega)) rfl cl_X1_9 in_X0 ii_X0 rfl (by have := (iv_F (b + j) o2 0 (by decide)).2.2; omega) (by rw [← o1]; exact (iv_F (b + j) o2 0 (by decide)).2.1) o1 (by omega) (by omega) ?_
    refine g_mem _ (zr_z (fun k => hzF 0 (by decide) _ k)) ?_
    refine g_dup dX1_init_58 rfl ?_
    refine g_aload_n dX1_init_59 rfl ?_
    have hF := c_X0_init l (b + j) o2 (x_row ρ 20 q j) σ (fun a ha k => by rw [Nat.zero_add]; exact hzF a ha _ k)
    rw [o1, o3] at hF
    refine f_I (Nat.succ_pos _) dX1_init_60 cs_X1_31 mb_X0_init hF rfl rfl (Nat.le_of_ble_eq_true rfl) (by decide) (by decide) (by omega) (by omega) ?_
    refine g_aast j dX1_init_63 rfl (by rw [hlen]; omega) (hvA _ (by omega)) rfl ⟨by rw [o1, ← o1]; exact (iv_F (b + j) o2 0 (by decide)).2.1, by omega⟩ rfl ?_
    refine g_iinc (lv' := [(2, xI ((j + 1 : Nat) : Int)), _, _]) dX1_init_64 (Nat.le_of_ble_eq_true rfl) rfl rfl ?_
    refine g_goto 41 dX1_init_67 rfl ?_
    rw [row_s (by omega) o4.symm]
    have h := ih (j + 1) (x_fl0 ρ 0 (b + j)) (cu + 1 + 4) (su + 12 + 24) (by omega) (by simp only [x_fl0]; rw [if_neg (by omega)]; exact h13) (by omega) (by omega)
    rw [show n0 + 5 * (j + 1) = n0 + 5 * j + 1 + 4 by omega] at h
    exact h
