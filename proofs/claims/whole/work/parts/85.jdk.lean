/-! the class's one text, and String's methods over it -/
theorem wJ_38 : Cond.fieldLink RJ0 38 "java/lang/String" "COMPACT_STRINGS" "Z" ∈ x_T := x_in (k := 254) (by decide +kernel) rfl
theorem wJ_15 : Cond.fieldLink RJ0 15 "java/lang/String" "coder" "B" ∈ x_T := x_in (k := 1034) (by decide +kernel) rfl
theorem wJ_9 : Cond.fieldLink RJ0 9 "java/lang/String" "value" "[B" ∈ x_T := x_in (k := 1033) (by decide +kernel) rfl
theorem wJ_1053 : Cond.fieldLink RJ0 1053 "jdk/internal/util/Preconditions" "SIOOBE_FORMATTER" "Ljava/util/function/BiFunction;" ∈ x_T := x_in (k := 270) (by decide +kernel) rfl
def x_tc (j : Nat) : Int := (x_txt.getD j 0).toInt
abbrev x_QT (n : Nat) (ρ : xMr) (σ : xMi) (r : Option xV) : xP := fun r1 n1 ρ1 σ1 => r1 = r ∧ n1 = n ∧ ρ1 = ρ ∧ σ1 = σ
section
variable {l : Launch} {own : String} {cc : ByteArray} {nL : Nat} {ret : Option FieldType} {bb : Bool} {w : xZ} {d mc ms : Nat} {Q : xP} {n cu su pc : Nat} {lv lv' : List (Nat × xV)} {st rest : List xV} {ρ : xMr} {σ : xMi} {idx : Nat}
theorem g_txt (hd : decode cc pc = .ok (.ldc 70, 2)) (ho : own = RX6) (kk : xGo l own cc nL ret (bb, some w) d mc ms Q n cu su (pc + 2) lv (xA w.1 :: st) ρ σ) : xGo l own cc nL ret (bb, some w) d mc ms Q n cu su pc lv st ρ σ := by
  intro p e s m args below meth c B D cy zz H locs ls hC hR hS hl
  obtain ⟨hx, hbc, hml, hown, hts, hrt, hlk, hin, hK, hX1, hX2, hX3, hXR, hXS, hXZ, hXO⟩ := id hC
  have hz : zz = w := hin.2 w rfl
  subst ho
  exact va_ldcS hx hbc hown (by rw [← hz]; exact hXR) hd (kk p e s m args below meth c B D cy zz H locs ls hC hR hS hl)
theorem g_loadA {k : Fin 4} {a : Nat} {ini : xB} (hd : decode cc pc = .ok (.aload_n k, 1)) (h : x_lg lv k = some (xA a)) (kk : xGo l own cc nL ret ini d mc ms Q n cu su (pc + 1) lv (xA a :: st) ρ σ) : xGo l own cc nL ret ini d mc ms Q n cu su pc lv st ρ σ := by
  intro p e s m args below meth c B D cy zz H locs ls hC hR hS hl
  exact lv_aload_n hC.1 hC.2.1 hd rfl (x_lg_at h hl) (kk p e s m args below meth c B D cy zz H locs ls hC hR hS hl)
theorem g_cmpct (hd : decode cc pc = .ok (.getstatic 38, 3)) (ho : own = RJ0) (kk : xGo l own cc nL ret (bb, some w) d mc ms Q n cu su (pc + 3) lv (xI 1 :: st) ρ σ) : xGo l own cc nL ret (bb, some w) d mc ms Q n cu su pc lv st ρ σ := by
  intro p e s m args below meth c B D cy zz H locs ls hC hR hS hl
  obtain ⟨hx, hbc, hml, hown, hts, hrt, hlk, hin, hK, hX1, hX2, hX3, hXR, hXS, hXZ, hXO⟩ := id hC
  subst ho
  exact va_gets hx hbc hXZ.1 hS.1 hown (hts _ wJ_38) (fun x h => h) hd (kk p e s m args below meth c B D cy zz H locs ls hC hR hS hl)
theorem g_coder (hd : decode cc pc = .ok (.getfield 15, 3)) (ho : own = RJ0) (kk : xGo l own cc nL ret (bb, some w) d mc ms Q n cu su (pc + 3) lv (xI 0 :: st) ρ σ) : xGo l own cc nL ret (bb, some w) d mc ms Q n cu su pc lv (xA w.1 :: st) ρ σ := by
  intro p e s m args below meth c B D cy zz H locs ls hC hR hS hl
  obtain ⟨hx, hbc, hml, hown, hts, hrt, hlk, hin, hK, hX1, hX2, hX3, hXR, hXS, hXZ, hXO⟩ := id hC
  have hz : zz = w := hin.2 w rfl
  subst ho
  exact vk_getf hx hbc (by rw [← hz]; exact (hXS.1 0 (by decide)).2.1) hS.1 hown (hts _ wJ_15) (fun x h => h) hd (kk p e s m args below meth c B D cy zz H locs ls hC hR hS hl)
theorem g_value (hd : decode cc pc = .ok (.getfield 9, 3)) (ho : own = RJ0) (kk : xGo l own cc nL ret (bb, some w) d mc ms Q n cu su (pc + 3) lv (xA w.2.1 :: st) ρ σ) : xGo l own cc nL ret (bb, some w) d mc ms Q n cu su pc lv (xA w.1 :: st) ρ σ := by
  intro p e s m args below meth c B D cy zz H locs ls hC hR hS hl
  obtain ⟨hx, hbc, hml, hown, hts, hrt, hlk, hin, hK, hX1, hX2, hX3, hXR, hXS, hXZ, hXO⟩ := id hC
  have hz : zz = w := hin.2 w rfl
  subst ho
  exact vk_getf hx hbc (by rw [← hz]; exact (hXS.1 0 (by decide)).2.2.1) hS.1 hown (hts _ wJ_9) (fun x h => h) hd (kk p e s m args below meth c B D cy zz H locs ls hC hR hS hl)
theorem g_tlen (hd : decode cc pc = .ok (.arraylength, 1)) (kk : xGo l own cc nL ret (bb, some w) d mc ms Q n cu su (pc + 1) lv (xI 51 :: st) ρ σ) : xGo l own cc nL ret (bb, some w) d mc ms Q n cu su pc lv (xA w.2.1 :: st) ρ σ := by
  intro p e s m args below meth c B D cy zz H locs ls hC hR hS hl
  obtain ⟨hx, hbc, hml, hown, hts, hrt, hlk, hin, hK, hX1, hX2, hX3, hXR, hXS, hXZ, hXO⟩ := id hC
  have hz : zz = w := hin.2 w rfl
  exact va_tlen hx hbc (by rw [← hz]; exact (hXS.1 0 (by decide)).2.2.2) hS.1 (v := Int32.ofInt 51) rfl hd (kk p e s m args below meth c B D cy zz H locs ls hC hR hS hl)
theorem g_tbyte {j : Nat} (hj : j < 51) (hd : decode cc pc = .ok (.baload, 1)) (kk : xGo l own cc nL ret (bb, some w) d mc ms Q n cu su (pc + 1) lv (xI (x_tc j) :: st) ρ σ) : xGo l own cc nL ret (bb, some w) d mc ms Q n cu su pc lv (xI (j : Int) :: xA w.2.1 :: st) ρ σ := by
  intro p e s m args below meth c B D cy zz H locs ls hC hR hS hl
  obtain ⟨hx, hbc, hml, hown, hts, hrt, hlk, hin, hK, hX1, hX2, hX3, hXR, hXS, hXZ, hXO⟩ := id hC
  have hz : zz = w := hin.2 w rfl
  refine va_tb hx hbc (N := 51) (f := fun j => .int (x_txt.getD j 0)) (by rw [← hz]; exact (hXS.1 0 (by decide)).2.2.2) hS.1 (i := Int32.ofInt (j : Int)) (x_vin hj (by decide)) (v := .int (Int32.ofInt (x_tc j))) ?_ hd (kk p e s m args below meth c B D cy zz H locs ls hC hR hS hl)
  rw [x_clamp (by omega)]
  unfold x_tc
  rw [Int32.ofInt_toInt]
variable {y : MethodName} {own' : String} {cc' : ByteArray} {nL' : Nat} {ret' : Option FieldType} {ini' : xB} {d' mc' ms' na : Nat} {As : List xV} {v : xV}
theorem f_AT (hn0 : 0 < n) (hd : decode cc pc = .ok (.invokevirtual idx, 3)) (hw : x_cV own idx y) (hb : x_cB y cc' nL' ret' na) (hSp : x_Sp l y (own', cc', nL', ret', (false, some w)) d' 0 0 n ρ σ (xA w.1 :: As) (x_QT n ρ σ (some v))) (hst : As.reverse ++ xA w.1 :: rest = st) (hy : y.cls = "java/lang/String") (hna : As.length = na) (hcat : (rest.map x_cat).sum ≤ 8) (hdd : d' + 1 ≤ d) (hnl : nL' ≤ 80) (hc : cu ≤ mc) (hsl : su ≤ ms)
    (kk : xGo l own cc nL ret (bb, some w) d mc ms Q n cu su (pc + 3) lv (v :: rest) ρ σ) : xGo l own cc nL ret (bb, some w) d mc ms Q n cu su pc lv st ρ σ := by
  subst hst
  intro p e s m args below meth c B D cy zz H locs ls hC hR hS hl T hT X
  have hz := x_size (Or.inl hn0) hR hS hT X
  obtain ⟨hx, hbc, hml, hown, hts, hrt, hlk, hin, hK⟩ := id hC
  obtain ⟨hX1, hX2, hX3, hXR, hXS, hXZ, hXO⟩ := id hK.2
  have hzw : zz = w := hin.2 w rfl
  obtain ⟨w1, w2, w3⟩ := hw
  obtain ⟨b1, b2, b3, b4⟩ := hb
  have hrecv := vk_recv hXS (i := 0) (by decide) hS.1
  rw [← hy, hzw] at hrecv
  refine x_after hC hS hl hz (Q' := x_QT n ρ σ (some v)) (mc' := 0) (ms' := 0) (rest := rest) (fun r n' ρ' σ' h => h.2.1) (fun r n' ρ' σ' h => ?_) (aa := (Value.ref w.1 :: As.map (x_tv B)).toArray) ?_ hT X
  · obtain ⟨rfl, rfl, rfl, rfl⟩ := h
    exact kk
  refine va_runV (C := y.cls) (n := na) (b := w.1) (As := As.map (x_tv B)) (Ts := x_T) (own := own) (index := idx) (bytes := cc') (maxL := nL') (ret := ret') ⟨hx, hbc, hml, hown, hts⟩ (hSp B D cy zz (fun w h => hin.2 w h)) ⟨⟨rfl, rfl, hdd, ?_, x_pay hts b2, List.mem_cons_self, hts _ b2, hts _ b1, b3, x_len b4, hts _ w1⟩, hts _ w2, hts _ w3⟩ ⟨x_blind, hrecv, fun U hU hW => ⟨rfl, by rw [hU]; exact hR, by rw [hU]; exact hz, x_K.warm hW hU hS.1 hK⟩⟩ rfl (by rw [List.length_map]; exact hna) hl.1 ?_ (lv_room (by rw [x_cat_sum]; exact hcat)) hd ⟨hc, hsl⟩
  · show 8 + (nL' + 11) + 100 * d' ≤ 100 * d
    omega
  · show (As.reverse ++ xA w.1 :: rest).map (x_tv B) = _
    rw [List.map_append, List.map_reverse]; rfl
theorem f_ST (hn0 : 0 < n) (hd : decode cc pc = .ok (.invokestatic idx, 3)) (hw : x_cS own idx y) (hb : x_cB y cc' nL' ret' na) (hSp : x_Sp l y (own', cc', nL', ret', (false, some w)) d' 0 0 n ρ σ As (x_QT n ρ σ (some v))) (hst : As.reverse ++ rest = st) (hna : As.length = na) (hcat : (rest.map x_cat).sum ≤ 8) (hdd : d' + 1 ≤ d) (hnl : nL' ≤ 80) (hc : cu ≤ mc) (hsl : su ≤ ms)
    (kk : xGo l own cc nL ret (bb, some w) d mc ms Q n cu su (pc + 3) lv (v :: rest) ρ σ) : xGo l own cc nL ret (bb, some w) d mc ms Q n cu su pc lv st ρ σ := by
  subst hst
  refine x_callS hn0 hd hw hb hSp (fun w h => h) hna hcat hdd hnl hc hsl (fun r n' ρ' σ' h => h.2.1) (fun r n' ρ' σ' h => ?_)
  obtain ⟨rfl, rfl, rfl, rfl⟩ := h
  exact kk
theorem f_STv (hn0 : 0 < n) (hd : decode cc pc = .ok (.invokestatic idx, 3)) (hw : x_cS own idx y) (hb : x_cB y cc' nL' ret' na) (hSp : x_Sp l y (own', cc', nL', ret', (false, some w)) d' 0 0 n ρ σ As (x_QT n ρ σ none)) (hst : As.reverse ++ rest = st) (hna : As.length = na) (hcat : (rest.map x_cat).sum ≤ 8) (hdd : d' + 1 ≤ d) (hnl : nL' ≤ 80) (hc : cu ≤ mc) (hsl : su ≤ ms)
    (kk : xGo l own cc nL ret (bb, some w) d mc ms Q n cu su (pc + 3) lv rest ρ σ) : xGo l own cc nL ret (bb, some w) d mc ms Q n cu su pc lv st ρ σ := by
  subst hst
  refine x_callS hn0 hd hw hb hSp (fun w h => h) hna hcat hdd hnl hc hsl (fun r n' ρ' σ' h => h.2.1) (fun r n' ρ' σ' h => ?_)
  obtain ⟨rfl, rfl, rfl, rfl⟩ := h
  exact kk
end
theorem c_J3 (l : Launch) (n : Nat) (ρ : xMr) (σ : xMi) (j : Nat) (hj : j < 51) (B : Nat) (D : va_G) (cy : Nat → ClassId) (z : xZ) (v : Value) (hv : v.category = 1) : Met l yJ3_checkIndex_8e157 (.code yJ3_checkIndex_8e157 cJ3_checkIndex_8e157 3 (some .int) :: x_T) (x_rm 0 0 0) (va_Pc [.int (Int32.ofInt (j : Int)), .int (Int32.ofInt 51), v] (fun U => x_R B D cy n ρ σ U.heap ∧ U.heap.size = B + n ∧ x_K B D cy z U)) (x_Q B D cy (x_QT n ρ σ (some (xI (j : Int))))) 0 0 (fun q => B ≤ q) := by
  have hgo : xGo l RJ3 cJ3_checkIndex_8e157 3 (some .int) (false, none) 0 0 0 (x_QT n ρ σ (some (xI (j : Int)))) n 0 0 0 [(0, xI (j : Int)), (1, xI 51)] [] ρ σ := by
    refine g_iload_n dJ3_checkIndex_8e157_0 rfl ?_
    refine g_if_lt 9 dJ3_checkIndex_8e157_1 rfl (fun h => ?_) (fun _ => ?_)
    · rw [x_nat (by omega)] at h; omega
    refine g_iload_n dJ3_checkIndex_8e157_4 rfl ?_
    refine g_iload_n dJ3_checkIndex_8e157_5 rfl ?_
    refine g_cmp_lt 16 dJ3_checkIndex_8e157_6 rfl (fun _ => ?_) (fun h => ?_)
    · refine g_iload_n dJ3_checkIndex_8e157_16 rfl ?_
      exact g_iret dJ3_checkIndex_8e157_17 ⟨rfl, rfl, rfl, rfl⟩ (Nat.le_refl _) (Nat.le_refl _)
    · exfalso
      apply h
      rw [x_nat (by omega)]
      have : x_wr 51 = 51 := by decide +kernel
      omega
  refine Met.ofW (cc := cJ3_checkIndex_8e157) (maxL := 3) (ret := some .int) (by decide) rfl ?_
  intro p e s m args below meth c s₁ Bd hml hv2
  obtain ⟨rfl, hR, hz, hK⟩ := hv2
  have hts := atoms_spec (ws := .code yJ3_checkIndex_8e157 cJ3_checkIndex_8e157 3 (some .int) :: x_T) Bd.pre
  have ho : s.vm.findClass RJ3 = some m.cls := findClass_of_methodNamed Bd.named
  have hl := lv_entry [.int (Int32.ofInt (j : Int)), .int (Int32.ofInt 51), v] (n := 3) (by
    cases v <;> first | exact Nat.le_refl _ | (exfalso; simp [Value.category] at hv))
  rw [lg_entry_eq]
  have hl2 : lv_has _ 3 (x_lv B [(0, xI (j : Int)), (1, xI 51)]) := lv_sub hl [0, 1] rfl
  exact hgo p e s m _ below meth c B D cy z s.heap [] _ ⟨Bd.exec, Bd.bytes, hml, ho, fun w hw => hts w (List.mem_cons_of_mem _ hw), Bd.returns, Bd.notSynchronized, ⟨fun hi => Bool.noConfusion hi, fun w h => absurd h (by simp)⟩, hK⟩ hR ⟨va_S.rf, hz⟩ hl2
theorem c_J0_checkIndex (l : Launch) (n : Nat) (w : xZ) (ρ : xMr) (σ : xMi) (j : Nat) (hj : j < 51) (hn0 : 0 < n) : x_Sp l yJ0_checkIndex_df160 (RJ0, cJ0_checkIndex_df160, 2, none, (false, some w)) 1 0 0 n ρ σ [xI (j : Int), xI 51] (x_QT n ρ σ none) := by
  refine x_Sp.of (by decide) rfl (fun h => Bool.noConfusion h) (Nat.le_of_ble_eq_true rfl) ?_
  refine g_iload_n dJ0_checkIndex_df160_0 rfl ?_
  refine g_iload_n dJ0_checkIndex_df160_1 rfl ?_
  intro p e s m args below meth c B D cy zz H locs ls hC hR hS hl
  obtain ⟨hx, hbc, hml, hown, hts, hrt, hlk, hin, hK⟩ := id hC
  obtain ⟨hX1, hX2, hX3, hXR, hXS, hXZ, hXO⟩ := id hK.2
  obtain ⟨w1, w2⟩ := cs_J0_1059
  obtain ⟨b1, b2, b3, b4⟩ := mb_J3_checkIndex_8e157
  have main : ∀ v : Value, v.category = 1 → va_Z "jdk/internal/util/Preconditions" "SIOOBE_FORMATTER" "Ljava/util/function/BiFunction;" v (fun q => B ≤ q) s s.heap → W p l e (x_rm 1 0 0) s m args below meth c H locs 0 0 (MQ below (x_Q B D cy (x_QT n ρ σ none)) args s 0 0 (fun q => B ≤ q)) (F0 m (0 + 1 + 1) ls ([xI 51, xI (j : Int)].map (x_tv B))) := by
    intro v hv hZ
    refine va_gets hx hbc hZ hS.1 hown (hts _ wJ_1053) (fun x h => h) dJ0_checkIndex_df160_2 ?_
    intro T hT X
    have hz := x_size (Or.inl hn0) hR hS hT X
    refine x_after hC hS hl hz (Q' := x_QT n ρ σ (some (xI (j : Int)))) (mc' := 0) (ms' := 0) (rest := []) (fun r n' ρ' σ' h => h.2.1) (fun r n' ρ' σ' h => ?_) (aa := [.int (Int32.ofInt (j : Int)), .int (Int32.ofInt 51), v].toArray) ?_ hT X
    · obtain ⟨rfl, rfl, rfl, rfl⟩ := h
      refine g_pop dJ0_checkIndex_df160_8 rfl ?_
      exact g_vret dJ0_checkIndex_df160_9 ⟨rfl, rfl, rfl, rfl⟩ (Nat.le_refl _) (Nat.le_refl _)
    refine va_runS (n := 3) (As := [.int (Int32.ofInt (j : Int)), .int (Int32.ofInt 51), v]) (Ts := x_T) (own := RJ0) (index := 1059) (bytes := cJ3_checkIndex_8e157) (maxL := 3) (ret := some .int) ⟨hx, hbc, hml, hown, hts⟩ (c_J3 l n ρ σ j hj B D cy zz v hv) ⟨⟨rfl, rfl, Nat.le_refl _, ?_, x_pay hts b2, List.mem_cons_self, hts _ b2, hts _ b1, b3, x_len b4, hts _ w1⟩, hts _ w2⟩ ⟨x_blind, fun U hU hW => ⟨rfl, by rw [hU]; exact hR, by rw [hU]; exact hz, x_K.warm hW hU hS.1 hK⟩⟩ rfl rfl hl.1 rfl (lv_room (Nat.zero_le _)) dJ0_checkIndex_df160_5 ⟨Nat.le_refl _, Nat.le_refl _⟩
    decide
  rcases hXZ.2.1 with h | ⟨t, h⟩
  · exact main .null rfl h
  · exact main (.ref t) rfl h
def x_ca (j : Nat) : Int := x_chr (x_and (x_tc j) 255)
theorem c_J1_charAt (l : Launch) (n : Nat) (w : xZ) (ρ : xMr) (σ : xMi) (j : Nat) (hj : j < 51) (hn0 : 0 < n) : x_Sp l yJ1_charAt_3b067 (RJ1, cJ1_charAt_3b067, 2, some .char, (false, some w)) 2 0 0 n ρ σ [xA w.2.1, xI (j : Int)] (x_QT n ρ σ (some (xI (x_ca j)))) := by
  refine x_Sp.of (by decide) rfl (fun h => Bool.noConfusion h) (Nat.le_of_ble_eq_true rfl) ?_
  refine g_iload_n dJ1_charAt_3b067_0 rfl ?_
  refine g_loadA dJ1_charAt_3b067_1 rfl ?_
  refine g_tlen dJ1_charAt_3b067_2 ?_
  refine f_STv hn0 dJ1_charAt_3b067_3 cs_J1_9 mb_J0_checkIndex_df160 (c_J0_checkIndex l n w ρ σ j hj hn0) rfl rfl (Nat.zero_le _) (Nat.le_of_ble_eq_true rfl) (Nat.le_of_ble_eq_true rfl) (Nat.le_refl _) (Nat.le_refl _) ?_
  refine g_loadA dJ1_charAt_3b067_6 rfl ?_
  refine g_iload_n dJ1_charAt_3b067_7 rfl ?_
  refine g_tbyte hj dJ1_charAt_3b067_8 ?_
  refine g_sipush dJ1_charAt_3b067_9 (by decide) ?_
  refine g_iand dJ1_charAt_3b067_12 ?_
  refine g_i2c dJ1_charAt_3b067_13 ?_
  exact g_cret dJ1_charAt_3b067_14 (x_nchar (x_chr_in _).1 (x_chr_in _).2) ⟨rfl, rfl, rfl, rfl⟩ (Nat.le_refl _) (Nat.le_refl _)
theorem c_J0_isLatin1 (l : Launch) (n : Nat) (w : xZ) (ρ : xMr) (σ : xMi) : x_Sp l yJ0_isLatin1_aae02 (RJ0, cJ0_isLatin1_aae02, 1, some .boolean, (false, some w)) 0 0 0 n ρ σ [xA w.1] (x_QT n ρ σ (some (xI 1))) := by
  refine x_Sp.of (by decide) rfl (fun h => Bool.noConfusion h) (Nat.le_of_ble_eq_true rfl) ?_
  refine g_cmpct dJ0_isLatin1_aae02_0 rfl ?_
  refine g_if_eq 17 dJ0_isLatin1_aae02_3 rfl (fun h => absurd h (by decide +kernel)) (fun _ => ?_)
  refine g_loadA dJ0_isLatin1_aae02_6 rfl ?_
  refine g_coder dJ0_isLatin1_aae02_7 rfl ?_
  refine g_if_ne 17 dJ0_isLatin1_aae02_10 rfl (fun h => absurd (by decide +kernel) h) (fun _ => ?_)
  refine g_iconst dJ0_isLatin1_aae02_13 ?_
  refine g_goto 18 dJ0_isLatin1_aae02_14 rfl ?_
  exact g_zret dJ0_isLatin1_aae02_18 (Or.inr rfl) ⟨rfl, rfl, rfl, rfl⟩ (Nat.le_refl _) (Nat.le_refl _)
theorem c_J0_coder (l : Launch) (n : Nat) (w : xZ) (ρ : xMr) (σ : xMi) : x_Sp l yJ0_coder_7d493 (RJ0, cJ0_coder_7d493, 1, some .byte, (false, some w)) 0 0 0 n ρ σ [xA w.1] (x_QT n ρ σ (some (xI 0))) := by
  refine x_Sp.of (by decide) rfl (fun h => Bool.noConfusion h) (Nat.le_of_ble_eq_true rfl) ?_
  refine g_cmpct dJ0_coder_7d493_0 rfl ?_
  refine g_if_eq 13 dJ0_coder_7d493_3 rfl (fun h => absurd h (by decide +kernel)) (fun _ => ?_)
  refine g_loadA dJ0_coder_7d493_6 rfl ?_
  refine g_coder dJ0_coder_7d493_7 rfl ?_
  refine g_goto 14 dJ0_coder_7d493_10 rfl ?_
  exact g_bret dJ0_coder_7d493_14 rfl ⟨rfl, rfl, rfl, rfl⟩ (Nat.le_refl _) (Nat.le_refl _)
theorem c_J0_length (l : Launch) (n : Nat) (w : xZ) (ρ : xMr) (σ : xMi) (hn0 : 0 < n) : x_Sp l yJ0_length_8abf5 (RJ0, cJ0_length_8abf5, 1, some .int, (false, some w)) 1 0 0 n ρ σ [xA w.1] (x_QT n ρ σ (some (xI 51))) := by
  refine x_Sp.of (by decide) rfl (fun h => Bool.noConfusion h) (Nat.le_of_ble_eq_true rfl) ?_
  refine g_loadA dJ0_length_8abf5_0 rfl ?_
  refine g_value dJ0_length_8abf5_1 rfl ?_
  refine g_tlen dJ0_length_8abf5_4 ?_
  refine g_loadA dJ0_length_8abf5_5 rfl ?_
  refine f_AT (As := []) hn0 dJ0_length_8abf5_6 cs_J0_335 mb_J0_coder_7d493 (c_J0_coder l n w ρ σ) rfl rfl rfl (Nat.le_of_ble_eq_true rfl) (Nat.le_of_ble_eq_true rfl) (Nat.le_of_ble_eq_true rfl) (Nat.le_refl _) (Nat.le_refl _) ?_
  refine g_ishr dJ0_length_8abf5_9 ?_
  exact g_iret dJ0_length_8abf5_10 ⟨by rw [show x_shr 51 0 = 51 by decide +kernel], rfl, rfl, rfl⟩ (Nat.le_refl _) (Nat.le_refl _)
theorem c_J0_charAt (l : Launch) (n : Nat) (w : xZ) (ρ : xMr) (σ : xMi) (j : Nat) (hj : j < 51) (hn0 : 0 < n) : x_Sp l yJ0_charAt_5068e (RJ0, cJ0_charAt_5068e, 2, some .char, (false, some w)) 3 0 0 n ρ σ [xA w.1, xI (j : Int)] (x_QT n ρ σ (some (xI (x_ca j)))) := by
  refine x_Sp.of (by decide) rfl (fun h => Bool.noConfusion h) (Nat.le_of_ble_eq_true rfl) ?_
  refine g_loadA dJ0_charAt_5068e_0 rfl ?_
  refine f_AT (As := []) hn0 dJ0_charAt_5068e_1 cs_J0_492 mb_J0_isLatin1_aae02 (c_J0_isLatin1 l n w ρ σ) rfl rfl rfl (Nat.le_of_ble_eq_true rfl) (Nat.le_of_ble_eq_true rfl) (Nat.le_of_ble_eq_true rfl) (Nat.le_refl _) (Nat.le_refl _) ?_
  refine g_if_eq 16 dJ0_charAt_5068e_4 rfl (fun h => absurd h (by decide +kernel)) (fun _ => ?_)
  refine g_loadA dJ0_charAt_5068e_7 rfl ?_
  refine g_value dJ0_charAt_5068e_8 rfl ?_
  refine g_iload_n dJ0_charAt_5068e_11 rfl ?_
  refine f_ST hn0 dJ0_charAt_5068e_12 cs_J0_495 mb_J1_charAt_3b067 (c_J1_charAt l n w ρ σ j hj hn0) rfl rfl (Nat.zero_le _) (Nat.le_of_ble_eq_true rfl) (Nat.le_of_ble_eq_true rfl) (Nat.le_refl _) (Nat.le_refl _) ?_
  exact g_cret dJ0_charAt_5068e_15 (x_nchar (x_chr_in _).1 (x_chr_in _).2) ⟨rfl, rfl, rfl, rfl⟩ (Nat.le_refl _) (Nat.le_refl _)
