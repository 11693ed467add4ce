/-- where the references point, once all is made -/
def x_rof (f : Nat) : Nat := if f = 2 then 2 else 0
def x_r0 : xMr := fun t i k => match t with
  | 0 => if k = 0 then some (5, x_rof i) else if k < 5 then some (k, i) else none
  | 5 => if k < 4 then some (6 + k, i) else none
  | 10 => if k < 2 then some (11 + k, i) else none
  | 13 => if k = 0 then some (14, i) else none
  | 14 => if i = 0 then (if k < 8 then some (0, 3 + k) else none) else (if k < 2 then some (0, 11 + k) else none)
  | 15 => if k < 3 then some (16 + k, i) else none
  | 19 => if k < 3 then some (20 + k, i) else none
  | 20 => if k < 7 then some (0, 13 + k) else none
  | 23 => ([(10, 0), (5, 0), (5, 1), (5, 2), (0, 0), (0, 1), (0, 2), (13, 0), (13, 1), (15, 0), (19, 0)] : List (Nat × Nat))[k]?
  | 24 => if k = 0 then none else if k < 5 then some (24 + k, i) else if k < 9 then none else if k < 17 then some (20 + k, i) else if k = 18 then some (37, i) else if k = 19 then some (38, i) else if k = 20 then some (39, i) else if k = 21 then some (40, i) else if k = 26 then some (41, i) else if k = 28 then some (42, i) else if k = 30 then some (43, i) else if k = 32 then some (44, i) else if k = 33 then some (45, i) else if k = 34 then some (46, i) else none
  | _ => none
theorem x_rof_lt (f : Nat) : x_rof f < 3 := by unfold x_rof; split <;> omega
abbrev x_QF (n : Nat) (r : Option xV) (σ' : xMi) : xP := fun r1 n1 ρ1 σ1 => r1 = r ∧ n1 = n ∧ ρ1 = x_r0 ∧ σ1 = σ'
abbrev x_G (l : Launch) (own : String) (cc : ByteArray) (nL : Nat) (ret : Option FieldType) (d n : Nat) (r : Option xV) (σ' : xMi) (pc : Nat) (lv : List (Nat × xV)) (st : List xV) (σ : xMi) : Prop := xGo l own cc nL ret (false, none) d 0 0 (x_QF n r σ') n 0 0 pc lv st x_r0 σ
abbrev x_F (l : Launch) (y : MethodName) (own : String) (cc : ByteArray) (nL : Nat) (ret : Option FieldType) (d n : Nat) (σ : xMi) (av : List xV) (r : Option xV) (σ' : xMi) : Prop := x_Sp l y (own, cc, nL, ret, (false, none)) d 0 0 n x_r0 σ av (x_QF n r σ')
theorem f_of {l : Launch} {y : MethodName} {own : String} {cc : ByteArray} {nL : Nat} {ret : Option FieldType} {d n : Nat} {σ : xMi} {av : List xV} {r : Option xV} {σ' : xMi} {lv : List (Nat × xV)} (hy : plainName y.cls = true) (hown : y.cls = own) (hlen : (av.map x_cat).sum ≤ nL) (hlv : x_la 0 av = lv) (h : x_G l own cc nL ret d n r σ' 0 lv [] σ) : x_F l y own cc nL ret d n σ av r σ' := by
  subst hlv
  exact x_Sp.of hy hown (fun h => Bool.noConfusion h) hlen h
section
variable {l : Launch} {own : String} {cc : ByteArray} {nL : Nat} {ret : Option FieldType} {ini : xB} {d mc ms : Nat} {Q : xP} {n cu su pc : Nat} {lv lv' : List (Nat × xV)} {st rest : List xV} {σ σ1 : xMi} {t i ci k idx : Nat} {v : xV}
variable {y : MethodName} {own' : String} {cc' : ByteArray} {nL' : Nat} {ret' : Option FieldType} {d' na : Nat} {As : List xV}
theorem x_ci8 {nm : String} (h : (x_cl[ci]?).map (fun q => q.1) = some nm) : ci < 8 := by
  rcases Nat.lt_or_ge ci 8 with h1 | h1
  · exact h1
  · rw [List.getElem?_eq_none (by simpa using h1)] at h
    cases h
theorem f_V (hd : decode cc pc = .ok (.invokevirtual idx, 3)) (hw : x_cV own idx y) (hb : x_cB y cc' nL' ret' na) (hSp : x_F l y own' cc' nL' ret' d' n σ (xR t i :: As) (some v) σ1) (hst : As.reverse ++ xR t i :: rest = st) (hv : x_vd n t i) (hs : x_sh t = .inr ci) (hci : (x_cl[ci]?).map (fun q => q.1) = some y.cls) (hna : As.length = na) (hcat : (rest.map x_cat).sum ≤ 8) (hdd : d' + 1 ≤ d) (hnl : nL' ≤ 80) (hc : cu ≤ mc) (hsl : su ≤ ms)
    (kk : xGo l own cc nL ret ini d mc ms Q n cu su (pc + 3) lv (v :: rest) x_r0 σ1) : xGo l own cc nL ret ini d mc ms Q n cu su pc lv st x_r0 σ := by
  subst hst
  refine x_callV hd hw hb hSp x_nw hv hs (fun q h => by rw [h] at hci; exact Option.some.inj hci) (x_ci8 hci) hna hcat hdd hnl hc hsl (fun r n' ρ' σ' h => h.2.1) (fun r n' ρ' σ' h => ?_)
  obtain ⟨rfl, rfl, rfl, rfl⟩ := h
  exact kk
theorem f_Vv (hd : decode cc pc = .ok (.invokevirtual idx, 3)) (hw : x_cV own idx y) (hb : x_cB y cc' nL' ret' na) (hSp : x_F l y own' cc' nL' ret' d' n σ (xR t i :: As) none σ1) (hst : As.reverse ++ xR t i :: rest = st) (hv : x_vd n t i) (hs : x_sh t = .inr ci) (hci : (x_cl[ci]?).map (fun q => q.1) = some y.cls) (hna : As.length = na) (hcat : (rest.map x_cat).sum ≤ 8) (hdd : d' + 1 ≤ d) (hnl : nL' ≤ 80) (hc : cu ≤ mc) (hsl : su ≤ ms)
    (kk : xGo l own cc nL ret ini d mc ms Q n cu su (pc + 3) lv rest x_r0 σ1) : xGo l own cc nL ret ini d mc ms Q n cu su pc lv st x_r0 σ := by
  subst hst
  refine x_callV hd hw hb hSp x_nw hv hs (fun q h => by rw [h] at hci; exact Option.some.inj hci) (x_ci8 hci) hna hcat hdd hnl hc hsl (fun r n' ρ' σ' h => h.2.1) (fun r n' ρ' σ' h => ?_)
  obtain ⟨rfl, rfl, rfl, rfl⟩ := h
  exact kk
theorem f_S (hd : decode cc pc = .ok (.invokestatic idx, 3)) (hw : x_cS own idx y) (hb : x_cB y cc' nL' ret' na) (hSp : x_F l y own' cc' nL' ret' d' n σ As (some v) σ1) (hst : As.reverse ++ rest = st) (hn0 : 0 < n) (hna : As.length = na) (hcat : (rest.map x_cat).sum ≤ 8) (hdd : d' + 1 ≤ d) (hnl : nL' ≤ 80) (hc : cu ≤ mc) (hsl : su ≤ ms)
    (kk : xGo l own cc nL ret ini d mc ms Q n cu su (pc + 3) lv (v :: rest) x_r0 σ1) : xGo l own cc nL ret ini d mc ms Q n cu su pc lv st x_r0 σ := by
  subst hst
  refine x_callS hn0 hd hw hb hSp x_nw hna hcat hdd hnl hc hsl (fun r n' ρ' σ' h => h.2.1) (fun r n' ρ' σ' h => ?_)
  obtain ⟨rfl, rfl, rfl, rfl⟩ := h
  exact kk
theorem f_Sv (hd : decode cc pc = .ok (.invokestatic idx, 3)) (hw : x_cS own idx y) (hb : x_cB y cc' nL' ret' na) (hSp : x_F l y own' cc' nL' ret' d' n σ As none σ1) (hst : As.reverse ++ rest = st) (hn0 : 0 < n) (hna : As.length = na) (hcat : (rest.map x_cat).sum ≤ 8) (hdd : d' + 1 ≤ d) (hnl : nL' ≤ 80) (hc : cu ≤ mc) (hsl : su ≤ ms)
    (kk : xGo l own cc nL ret ini d mc ms Q n cu su (pc + 3) lv rest x_r0 σ1) : xGo l own cc nL ret ini d mc ms Q n cu su pc lv st x_r0 σ := by
  subst hst
  refine x_callS hn0 hd hw hb hSp x_nw hna hcat hdd hnl hc hsl (fun r n' ρ' σ' h => h.2.1) (fun r n' ρ' σ' h => ?_)
  obtain ⟨rfl, rfl, rfl, rfl⟩ := h
  exact kk
theorem f_iret {r : Option xV} {σ' : xMi} {a : Int} (hd : decode cc pc = .ok (.ireturn, 1)) (h1 : some (xI a) = r) (h2 : σ = σ') : x_G l own cc nL (some .int) d n r σ' pc lv [xI a] σ := g_iret hd ⟨h1, rfl, rfl, h2⟩ (Nat.le_refl _) (Nat.le_refl _)
theorem f_zret {r : Option xV} {σ' : xMi} {a : Int} (hd : decode cc pc = .ok (.ireturn, 1)) (ha : a = 0 ∨ a = 1) (h1 : some (xI a) = r) (h2 : σ = σ') : x_G l own cc nL (some .boolean) d n r σ' pc lv [xI a] σ := g_zret hd ha ⟨h1, rfl, rfl, h2⟩ (Nat.le_refl _) (Nat.le_refl _)
theorem f_cret {r : Option xV} {σ' : xMi} {a : Int} (hd : decode cc pc = .ok (.ireturn, 1)) (ha : narrow .char (.int (Int32.ofInt a)) = .int (Int32.ofInt a)) (h1 : some (xI a) = r) (h2 : σ = σ') : x_G l own cc nL (some .char) d n r σ' pc lv [xI a] σ := g_cret hd ha ⟨h1, rfl, rfl, h2⟩ (Nat.le_refl _) (Nat.le_refl _)
theorem f_lret {r : Option xV} {σ' : xMi} {a : Int} (hd : decode cc pc = .ok (.lreturn, 1)) (h1 : some (xJ a) = r) (h2 : σ = σ') : x_G l own cc nL (some .long) d n r σ' pc lv [xJ a] σ := g_lret hd ⟨h1, rfl, rfl, h2⟩ (Nat.le_refl _) (Nat.le_refl _)
theorem f_vret {r : Option xV} {σ' : xMi} (hd : decode cc pc = .ok (.return_, 1)) (h1 : none = r) (h2 : σ = σ') : x_G l own cc nL none d n r σ' pc lv [] σ := g_vret hd ⟨h1, rfl, rfl, h2⟩ (Nat.le_refl _) (Nat.le_refl _)
end
theorem w_copy1 : Cond.native arraycopyName ∈ x_T ∧ Cond.static arraycopyName ∈ x_T ∧ Cond.initialized "java/lang/System" ∈ x_T := ⟨x_in (k := 340) (by decide +kernel) rfl, x_in (k := 339) (by decide +kernel) rfl, x_in (k := 59) (by decide +kernel) rfl⟩
theorem w_max : Cond.static Lib.Math.max.name ∈ x_T ∧ Cond.initialized "java/lang/Math" ∈ x_T ∧ Cond.code Lib.Math.max.name Lib.Math.max.code 2 (some .int) ∈ x_T := ⟨x_in (k := 182) (by decide +kernel) rfl, x_in (k := 52) (by decide +kernel) rfl, x_in (k := 183) (by decide +kernel) rfl⟩
theorem w_min : Cond.static Lib.Math.min.name ∈ x_T ∧ Cond.initialized "java/lang/Math" ∈ x_T ∧ Cond.code Lib.Math.min.name Lib.Math.min.code 2 (some .int) ∈ x_T := ⟨x_in (k := 445) (by decide +kernel) rfl, x_in (k := 52) (by decide +kernel) rfl, x_in (k := 446) (by decide +kernel) rfl⟩
theorem w_oi : Cond.instanceMethod objectInit ∈ x_T ∧ Cond.code objectInit ⟨#[0xb1]⟩ 1 none ∈ x_T := ⟨x_in (k := 68) (by decide +kernel) rfl, x_in (k := 69) (by decide +kernel) rfl⟩
theorem cx_X6_1 : Cond.methodLink RX6 1 objectInit ∈ x_T := x_in (k := 67) (by decide +kernel) rfl
theorem cx_X5_3 : Cond.methodLink RX5 3 objectInit ∈ x_T := x_in (k := 75) (by decide +kernel) rfl
theorem cx_X3_3 : Cond.methodLink RX3 3 objectInit ∈ x_T := x_in (k := 94) (by decide +kernel) rfl
theorem cx_X0_3 : Cond.methodLink RX0 3 objectInit ∈ x_T := x_in (k := 129) (by decide +kernel) rfl
theorem cx_X2_1 : Cond.methodLink RX2 1 objectInit ∈ x_T := x_in (k := 180) (by decide +kernel) rfl
theorem cx_X2_16 : Cond.methodLink RX2 16 Lib.Math.max.name ∈ x_T := cs_X2_16.1
theorem cx_X4_3 : Cond.methodLink RX4 3 objectInit ∈ x_T := x_in (k := 203) (by decide +kernel) rfl
theorem cx_X1_3 : Cond.methodLink RX1 3 objectInit ∈ x_T := x_in (k := 224) (by decide +kernel) rfl
theorem cx_X3_31 : Cond.methodLink RX3 31 arraycopyName ∈ x_T := x_in (k := 338) (by decide +kernel) rfl
theorem cx_X0_54 : Cond.methodLink RX0 54 arraycopyName ∈ x_T := x_in (k := 443) (by decide +kernel) rfl
theorem cx_X2_35 : Cond.methodLink RX2 35 Lib.Math.min.name ∈ x_T := cs_X2_35.1
theorem cx_X0_75 : Cond.methodLink RX0 75 Lib.Math.min.name ∈ x_T := cs_X0_75.1
theorem cx_X0_113 : Cond.methodLink RX0 113 Lib.Math.max.name ∈ x_T := cs_X0_113.1
theorem cx_X1_65 : Cond.methodLink RX1 65 arraycopyName ∈ x_T := x_in (k := 562) (by decide +kernel) rfl
theorem cx_X4_26 : Cond.methodLink RX4 26 Lib.Math.max.name ∈ x_T := cs_X4_26.1
theorem cx_X7_3 : Cond.methodLink RX7 3 objectInit ∈ x_T := x_in (k := 663) (by decide +kernel) rfl
theorem ii_X6 : Cond.initialized RX6 ∈ x_T := x_in (k := 47) (by decide +kernel) rfl
theorem ii_X5 : Cond.initialized RX5 ∈ x_T := x_in (k := 48) (by decide +kernel) rfl
theorem ii_X3 : Cond.initialized RX3 ∈ x_T := x_in (k := 49) (by decide +kernel) rfl
theorem ii_X0 : Cond.initialized RX0 ∈ x_T := x_in (k := 50) (by decide +kernel) rfl
theorem ii_X2 : Cond.initialized RX2 ∈ x_T := x_in (k := 51) (by decide +kernel) rfl
theorem ii_J9 : Cond.initialized RJ9 ∈ x_T := x_in (k := 52) (by decide +kernel) rfl
theorem ii_X4 : Cond.initialized RX4 ∈ x_T := x_in (k := 53) (by decide +kernel) rfl
theorem ii_X1 : Cond.initialized RX1 ∈ x_T := x_in (k := 54) (by decide +kernel) rfl
theorem ii_J0 : Cond.initialized RJ0 ∈ x_T := x_in (k := 55) (by decide +kernel) rfl
theorem ii_J1 : Cond.initialized RJ1 ∈ x_T := x_in (k := 56) (by decide +kernel) rfl
theorem ii_J3 : Cond.initialized RJ3 ∈ x_T := x_in (k := 57) (by decide +kernel) rfl
theorem ii_J2 : Cond.initialized RJ2 ∈ x_T := x_in (k := 58) (by decide +kernel) rfl
theorem ii_J10 : Cond.initialized RJ10 ∈ x_T := x_in (k := 59) (by decide +kernel) rfl
theorem ii_X7 : Cond.initialized RX7 ∈ x_T := x_in (k := 60) (by decide +kernel) rfl
theorem ii_J6 : Cond.initialized RJ6 ∈ x_T := x_in (k := 61) (by decide +kernel) rfl
theorem cl_L_7 : Cond.classLink RL 7 RX6 ∈ x_T := x_in (k := 62) (by decide +kernel) rfl
theorem in_X6 : Cond.instantiable RX6 11 ∈ x_T := x_in (k := 63) (by decide +kernel) rfl
theorem cl_X6_7 : Cond.classLink RX6 7 RX5 ∈ x_T := x_in (k := 70) (by decide +kernel) rfl
theorem in_X5 : Cond.instantiable RX5 3 ∈ x_T := x_in (k := 71) (by decide +kernel) rfl
theorem ac_char : Cond.arrayClass .char ∈ x_T := x_in (k := 87) (by decide +kernel) rfl
theorem ac_int : Cond.arrayClass .int ∈ x_T := x_in (k := 88) (by decide +kernel) rfl
theorem cl_X6_16 : Cond.classLink RX6 16 RX3 ∈ x_T := x_in (k := 89) (by decide +kernel) rfl
theorem in_X3 : Cond.instantiable RX3 6 ∈ x_T := x_in (k := 90) (by decide +kernel) rfl
theorem cl_X6_29 : Cond.classLink RX6 29 RX0 ∈ x_T := x_in (k := 124) (by decide +kernel) rfl
theorem in_X0 : Cond.instantiable RX0 12 ∈ x_T := x_in (k := 125) (by decide +kernel) rfl
theorem cl_X6_44 : Cond.classLink RX6 44 RX2 ∈ x_T := x_in (k := 175) (by decide +kernel) rfl
theorem in_X2 : Cond.instantiable RX2 3 ∈ x_T := x_in (k := 176) (by decide +kernel) rfl
theorem cl_X2_22 : Cond.classLink RX2 22 RX0 ∈ x_T := x_in (k := 184) (by decide +kernel) rfl
theorem cl_X6_56 : Cond.classLink RX6 56 RX4 ∈ x_T := x_in (k := 198) (by decide +kernel) rfl
theorem in_X4 : Cond.instantiable RX4 4 ∈ x_T := x_in (k := 199) (by decide +kernel) rfl
theorem ac_boolean : Cond.arrayClass .boolean ∈ x_T := x_in (k := 218) (by decide +kernel) rfl
theorem cl_X6_63 : Cond.classLink RX6 63 RX1 ∈ x_T := x_in (k := 219) (by decide +kernel) rfl
theorem in_X1 : Cond.instantiable RX1 5 ∈ x_T := x_in (k := 220) (by decide +kernel) rfl
theorem cl_X1_9 : Cond.classLink RX1 9 RX0 ∈ x_T := x_in (k := 225) (by decide +kernel) rfl
theorem ac_byte : Cond.arrayClass .byte ∈ x_T := x_in (k := 383) (by decide +kernel) rfl
theorem ct_J6_265 : Cond.constant RJ6 265 1431655765 ∈ x_T := x_in (k := 479) (by decide +kernel) rfl
theorem ct_J6_266 : Cond.constant RJ6 266 858993459 ∈ x_T := x_in (k := 480) (by decide +kernel) rfl
theorem ct_J6_267 : Cond.constant RJ6 267 252645135 ∈ x_T := x_in (k := 481) (by decide +kernel) rfl
theorem ct_X6_241 : Cond.constantLong RX6 241 7919 ∈ x_T := x_in (k := 627) (by decide +kernel) rfl
theorem ct_X6_243 : Cond.constantLong RX6 243 6151 ∈ x_T := x_in (k := 628) (by decide +kernel) rfl
theorem ct_X6_245 : Cond.constantLong RX6 245 65521 ∈ x_T := x_in (k := 629) (by decide +kernel) rfl
theorem ct_X6_247 : Cond.constantLong RX6 247 2 ∈ x_T := x_in (k := 630) (by decide +kernel) rfl
theorem cl_L_10 : Cond.classLink RL 10 RX7 ∈ x_T := x_in (k := 658) (by decide +kernel) rfl
theorem in_X7 : Cond.instantiable RX7 36 ∈ x_T := x_in (k := 659) (by decide +kernel) rfl
theorem ct_X7_241 : Cond.constantLong RX7 241 10 ∈ x_T := x_in (k := 999) (by decide +kernel) rfl
theorem ct_X7_250 : Cond.constantLong RX7 250 7919 ∈ x_T := x_in (k := 1010) (by decide +kernel) rfl
theorem ct_X7_252 : Cond.constantLong RX7 252 6151 ∈ x_T := x_in (k := 1011) (by decide +kernel) rfl
theorem ct_X7_254 : Cond.constantLong RX7 254 65521 ∈ x_T := x_in (k := 1012) (by decide +kernel) rfl
theorem ct_X7_256 : Cond.constantLong RX7 256 2 ∈ x_T := x_in (k := 1013) (by decide +kernel) rfl
