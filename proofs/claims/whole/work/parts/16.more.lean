section
variable {l : Launch} {own : String} {cc : ByteArray} {nL : Nat} {ret : Option FieldType} {ini : xB} {d mc ms : Nat} {Q : xP} {n cu su pc : Nat} {lv lv' : List (Nat × xV)} {st rest : List xV} {ρ : xMr} {σ : xMi} {t i ci k idx : Nat}
/-- an array of numbers is made -/
theorem g_newarr {atype : ArrayType} {a : Int} (ty : Nat) (hd : decode cc pc = .ok (.newarray atype, 2)) (h0 : 0 < n ∨ cu = 0) (hw : Cond.arrayClass (newarray.typeOf atype) ∈ x_T) (hty : ty = 0 ∧ newarray.typeOf atype = .int ∨ ty = 1 ∧ newarray.typeOf atype = .char ∨ ty = 2 ∧ newarray.typeOf atype = .boolean) (ha : a = (x_ln t i : Int)) (hs : x_sh t = .inl ty) (hn : n + 1 ≤ 154) (hiv : x_iv n = (t, i)) (hod : x_od t i = n) (hc1 : cu + 1 ≤ mc) (hs1 : su + x_ln t i ≤ ms)
    (kk : xGo l own cc nL ret ini d mc ms Q (n + 1) (cu + 1) (su + x_ln t i) (pc + 2) lv (xR t i :: st) ρ (x_zr σ t i)) : xGo l own cc nL ret ini d mc ms Q n cu su pc lv (xI a :: st) ρ σ := by
  intro p e s m args below meth c B D cy zz H locs ls hC hR hS hl T0 hT X
  subst ha
  have hz := x_size h0 hR hS hT X
  obtain ⟨hx, hbc, hml, hown, hts, hrt, hlk, hin, hK⟩ := id hC
  obtain ⟨hS1, hS2⟩ := hS
  have hb := x_ln_lt t i
  have hb2 : x_ln t i ≤ 416 := by unfold x_ln; (repeat' split) <;> omega
  have h3 : ty < 3 := by rcases hty with h | h | h <;> omega
  have key : W p l e (x_rm d mc ms) s m args below meth c H locs cu su (MQ below (x_Q B D cy Q) args s mc ms (fun q => B ≤ q)) (F0 m pc ls ((xI (x_ln t i : Int) :: st).map (x_tv B))) := by
    refine va_newaK (N := x_ln t i) hx hbc (hts _ hw) rfl hd (n := Int32.ofInt (x_ln t i : Int)) rfl ?_ (x_clamp hb) ?_ hc1 hs1 rfl fun H1 cA e1 z1 o1 hAr hNm => ?_
    · rw [x_lt0, x_nat hb]; omega
    · have : componentBytes (newarray.typeOf atype) ≤ 8 := by cases atype <;> decide
      exact Nat.le_trans (Nat.mul_le_mul hb2 this) (by decide)
    · have hcA : cA = cy ty ∧ defaultValue (newarray.typeOf atype) = .int 0 := by
        rcases hty with ⟨h, h'⟩ | ⟨h, h'⟩ | ⟨h, h'⟩
        · subst h
          rw [h'] at hNm ⊢
          exact ⟨Option.some.inj (hNm.symm.trans (hK.1.2 0 _ rfl).2), rfl⟩
        · subst h
          rw [h'] at hNm ⊢
          exact ⟨Option.some.inj (hNm.symm.trans (hK.1.2 1 _ rfl).2), rfl⟩
        · subst h
          rw [h'] at hNm ⊢
          exact ⟨Option.some.inj (hNm.symm.trans (hK.1.2 2 _ rfl).2), rfl⟩
      have hk : ∀ (k : Nat) (x : Nat × va_E), (x_wl B cy n ρ σ)[k]? = some x → H1[x.1]? = H[x.1]? := fun k x hx => o1 x.1 ((hR.1 k x hx).lt)
      have hP1 : va_P D x_cl (x_wl B cy n ρ σ ++ [(H.size, .inl (cy ty, x_ln t i, .inl (fun k => Int32.ofInt (x_zr σ t i t i k))))]) H1 := by
        refine (hR.1.kept hk).app (fun k x hx => ?_)
        have hz : k < 1 := (List.getElem?_eq_some_iff.mp hx).1
        rw [show k = 0 by omega] at hx
        cases hx
        show H1[H.size]? = some (vp_cell (cy ty) (x_ln t i, .inl (fun k => Int32.ofInt (x_zr σ t i t i k))))
        rw [e1, hcA.1, hcA.2]
        congr 1
        show arrV (cy ty) (x_ln t i) (fun _ => .int 0) = arrV (cy ty) (x_ln t i) (fun k => .int (Int32.ofInt (x_zr σ t i t i k)))
        congr 1
        funext k
        rw [x_zr_s]
        rfl
      have hR1 : x_R B D cy (n + 1) ρ (x_zr σ t i) H1 := x_grow hn hiv hod hz (x_ce_a hs h3).symm (fun t' i' ho => x_ce_eq (fun k' => rfl) (fun k' => x_zr_o ho k')) hP1
      have e3 := kk p e s m args below meth c B D cy zz H1 locs ls hC hR1 ⟨⟨Nat.le_trans hS1.1 (by omega), fun x h1 h2 => (o1 x (Nat.lt_of_lt_of_le h1 hS1.1)).trans (hS1.2.1 x h1 h2), hS1.2.2⟩, by omega⟩ hl
      have e4 : x_tv B (xR t i) = .ref H.size := by show Value.ref (B + x_od t i) = _; rw [hod, hz]
      rw [List.map_cons, e4] at e3
      exact e3
  exact key T0 hT X
/-- an array of Funds is made -/
theorem g_anew {a : Int} (hd : decode cc pc = .ok (.anewarray idx, 3)) (h0 : 0 < n ∨ cu = 0) (hw : Cond.classLink own idx RX0 ∈ x_T) (ha : a = (x_ln t i : Int)) (hs : x_sh t = .inl 3) (hn : n + 1 ≤ 154) (hiv : x_iv n = (t, i)) (hod : x_od t i = n) (hc1 : cu + 1 ≤ mc) (hs1 : su + x_ln t i ≤ ms)
    (kk : xGo l own cc nL ret ini d mc ms Q (n + 1) (cu + 1) (su + x_ln t i) (pc + 3) lv (xR t i :: st) (x_zn ρ t i) σ) : xGo l own cc nL ret ini d mc ms Q n cu su pc lv (xI a :: st) ρ σ := by
  intro p e s m args below meth c B D cy zz H locs ls hC hR hS hl T0 hT X
  subst ha
  have hz := x_size h0 hR hS hT X
  obtain ⟨hx, hbc, hml, hown, hts, hrt, hlk, hin, hK⟩ := id hC
  obtain ⟨hS1, hS2⟩ := hS
  have hb := x_ln_lt t i
  have hb2 : x_ln t i ≤ 416 := by unfold x_ln; (repeat' split) <;> omega
  have key : W p l e (x_rm d mc ms) s m args below meth c H locs cu su (MQ below (x_Q B D cy Q) args s mc ms (fun q => B ≤ q)) (F0 m pc ls ((xI (x_ln t i : Int) :: st).map (x_tv B))) := by
    refine W.anew hx hbc hown (hts _ hw) (va_AO.use hK.2.2.2.2.2.2.2) rfl hd rfl (n := Int32.ofInt (x_ln t i : Int)) ?_ ?_ hc1 ?_ fun cA kA comp f1 f2 f3 f4 => ?_
    · rw [x_lt0, x_nat hb]; omega
    · rw [x_clamp hb]; omega
    · rw [x_clamp hb]; exact hs1
    · rw [x_clamp hb]
      generalize hH1 : H.push ({ cls := cA, slots := Array.replicate (x_ln t i) .null, vm := .none } : Cell) = H1
      have z1 : H1.size = H.size + 1 := by rw [← hH1, Array.size_push]
      have e1 : H1[H.size]? = some (arrV cA (x_ln t i) (fun _ => .null)) := by rw [← hH1, Array.getElem?_push_size, ← arrV_new]
      have o1 : ∀ q : Nat, q < H.size → H1[q]? = H[q]? := fun q hq => by rw [← hH1, Array.getElem?_push, if_neg (Nat.ne_of_lt hq)]
      have hcA : cA = cy 3 := by
        obtain ⟨kA', comp', g1, g2, g3, g4⟩ := (hK.1.2 3 _ rfl).2
        first | exact Option.some.inj (f1.symm.trans g4) | exact Option.some.inj (f2.symm.trans g4) | exact Option.some.inj (f3.symm.trans g4) | exact Option.some.inj (f4.symm.trans g4)
      have hk : ∀ (k : Nat) (x : Nat × va_E), (x_wl B cy n ρ σ)[k]? = some x → H1[x.1]? = H[x.1]? := fun k x hx => o1 x.1 ((hR.1 k x hx).lt)
      have hP1 : va_P D x_cl (x_wl B cy n ρ σ ++ [(H.size, .inl (cy 3, x_ln t i, .inr (.inr (.inr (.inr (fun k => (x_zn ρ t i t i k).map (fun q => B + x_od q.1 q.2)))))))]) H1 := by
        refine (hR.1.kept hk).app (fun k x hx => ?_)
        have hz : k < 1 := (List.getElem?_eq_some_iff.mp hx).1
        rw [show k = 0 by omega] at hx
        cases hx
        show H1[H.size]? = some (vp_cell (cy 3) (x_ln t i, .inr (.inr (.inr (.inr (fun k => (x_zn ρ t i t i k).map (fun q => B + x_od q.1 q.2)))))))
        rw [e1, hcA, vp_cell_q]
        congr 2
        funext k
        rw [x_zn_s]
        rfl
      have hR1 : x_R B D cy (n + 1) (x_zn ρ t i) σ H1 := x_grow hn hiv hod hz (x_ce_3 hs).symm (fun t' i' ho => x_ce_eq (fun k' => x_zn_o ho k') (fun k' => rfl)) hP1
      have e3 := kk p e s m args below meth c B D cy zz H1 locs ls hC hR1 ⟨⟨Nat.le_trans hS1.1 (by omega), fun x h1 h2 => (o1 x (Nat.lt_of_lt_of_le h1 hS1.1)).trans (hS1.2.1 x h1 h2), hS1.2.2⟩, by omega⟩ hl
      have e4 : x_tv B (xR t i) = .ref H.size := by show Value.ref (B + x_od t i) = _; rw [hod, hz]
      rw [List.map_cons, e4] at e3
      exact e3
  exact key T0 hT X
/-- System.arraycopy of a whole row of ints -/
theorem g_copy {t2 i2 : Nat} {b : Int} (hd : decode cc pc = .ok (.invokestatic idx, 3)) (hw1 : Cond.methodLink own idx arraycopyName ∈ x_T) (hw2 : Cond.native arraycopyName ∈ x_T) (hw3 : Cond.static arraycopyName ∈ x_T) (hw4 : Cond.initialized "java/lang/System" ∈ x_T) (hd1 : 1 ≤ d) (hcat : (st.map x_cat).sum ≤ 8) (hv : x_vd n t i) (hv2 : x_vd n t2 i2) (hs : x_sh t = .inl 0) (hs2 : x_sh t2 = .inl 0) (hb : b = 6) (h6 : 6 ≤ x_ln t i) (h62 : 6 ≤ x_ln t2 i2)
    (kk : xGo l own cc nL ret ini d mc ms Q n cu su (pc + 3) lv st ρ (x_cp σ t i t2 i2 6)) : xGo l own cc nL ret ini d mc ms Q n cu su pc lv (xI b :: xI 0 :: xR t i :: xI 0 :: xR t2 i2 :: st) ρ σ := by
  intro p e s m args below meth c B D cy zz H locs ls hC hR hS hl
  subst hb
  obtain ⟨hx, hbc, hml, hown, hts, hrt, hlk, hin, hK⟩ := id hC
  have he := x_wl_vd B cy ρ σ hv
  rw [x_ce_a hs (by omega)] at he
  have he2 := x_wl_vd B cy ρ σ hv2
  rw [x_ce_a hs2 (by omega)] at he2
  refine va_copyi (f := fun k => Int32.ofInt (σ t2 i2 k)) (g := fun k => Int32.ofInt (σ t i k)) (ty := .int) (sp := 0) (dp := 0) (n := 6) hx hbc (hml.trans hl.1.symm) hown (hts _ hw1) (hts _ hw2) (hts _ hw3) (hts _ hw4) hK.1 hR.1 (x_wl_D B cy n ρ σ) hS.1 (x_od t2 i2) (x_od t i) 0 0 he2 he rfl rfl rfl (by decide) (by decide) (by decide) (by show 0 + 6 ≤ _; omega) (by show 0 + 6 ≤ _; omega) (fun _ _ => rfl) hd1 ?_ hd (fun H1 locs1 hP1 hD1 hS1 => ?_)
  · rw [x_cat_sum]
    have : nativeFrameWords "java/lang/System" "arraycopy" 5 ≤ 60 := by decide
    show _ + (_ + 11) ≤ 100 * d
    omega
  rw [x_wl_set B cy (ρ' := ρ) (σ' := x_cp σ t i t2 i2 6) hR.2 hv] at hP1
  · exact kk p e s m args below meth c B D cy zz H1 locs1 ls hC ⟨hP1, hR.2⟩ ⟨hS1, hS.2⟩ hl
  · rw [x_ce_a hs (by omega)]
    congr 4
    funext q
    show va_cpy _ _ 0 0 6 q = _
    unfold va_cpy x_cp
    by_cases h : q < 6
    · rw [if_pos ⟨Nat.zero_le _, by omega⟩, if_pos ⟨rfl, rfl, h⟩]
      congr 2
      omega
    · rw [if_neg (by omega), if_neg (by omega)]
  · intro t' i' ho
    refine x_ce_eq (fun _ => rfl) (fun k' => ?_)
    unfold x_cp
    exact if_neg (fun z => ho ⟨z.1, z.2.1⟩)
def x_max (a b : Int) : Int := if x_wr a < x_wr b then b else a
def x_min (a b : Int) : Int := if x_wr b < x_wr a then b else a
theorem g_max {a b : Int} (hd : decode cc pc = .ok (.invokestatic idx, 3)) (hw1 : Cond.methodLink own idx Lib.Math.max.name ∈ x_T) (hw2 : Cond.static Lib.Math.max.name ∈ x_T) (hw3 : Cond.initialized "java/lang/Math" ∈ x_T) (hw4 : Cond.code Lib.Math.max.name Lib.Math.max.code 2 (some .int) ∈ x_T) (hd1 : 1 ≤ d) (hcat : (st.map x_cat).sum ≤ 8) (hc : cu ≤ mc) (hsu : su ≤ ms) (kk : xGo l own cc nL ret ini d mc ms Q n cu su (pc + 3) lv (xI (x_max a b) :: st) ρ σ) : xGo l own cc nL ret ini d mc ms Q n cu su pc lv (xI b :: xI a :: st) ρ σ := by
  intro p e s m args below meth c B D cy zz H locs ls hC hR hS hl
  obtain ⟨hx, hbc, hml, hown, hts, hrt, hlk, hin, hK⟩ := id hC
  refine va_mmax hx hbc (hml.trans hl.1.symm) hown (hts _ hw1) (hts _ hw2) (hts _ hw3) (hts _ hw4) hd1 ?_ hc hsu hd ?_
  · rw [x_cat_sum]; show _ + 13 ≤ 100 * d; omega
  · refine x_to ?_ (kk p e s m args below meth c B D cy zz H locs ls hC hR hS hl)
    unfold x_max
    by_cases h : x_wr a < x_wr b
    · rw [if_pos h, if_pos ((x_lt a b).mpr h)]
    · rw [if_neg h, if_neg (fun z => h ((x_lt a b).mp z))]
theorem g_min {a b : Int} (hd : decode cc pc = .ok (.invokestatic idx, 3)) (hw1 : Cond.methodLink own idx Lib.Math.min.name ∈ x_T) (hw2 : Cond.static Lib.Math.min.name ∈ x_T) (hw3 : Cond.initialized "java/lang/Math" ∈ x_T) (hw4 : Cond.code Lib.Math.min.name Lib.Math.min.code 2 (some .int) ∈ x_T) (hd1 : 1 ≤ d) (hcat : (st.map x_cat).sum ≤ 8) (hc : cu ≤ mc) (hsu : su ≤ ms) (kk : xGo l own cc nL ret ini d mc ms Q n cu su (pc + 3) lv (xI (x_min a b) :: st) ρ σ) : xGo l own cc nL ret ini d mc ms Q n cu su pc lv (xI b :: xI a :: st) ρ σ := by
  intro p e s m args below meth c B D cy zz H locs ls hC hR hS hl
  obtain ⟨hx, hbc, hml, hown, hts, hrt, hlk, hin, hK⟩ := id hC
  refine va_mmin hx hbc (hml.trans hl.1.symm) hown (hts _ hw1) (hts _ hw2) (hts _ hw3) (hts _ hw4) hd1 ?_ hc hsu hd ?_
  · rw [x_cat_sum]; show _ + 13 ≤ 100 * d; omega
  · refine x_to ?_ (kk p e s m args below meth c B D cy zz H locs ls hC hR hS hl)
    unfold x_min
    by_cases h : x_wr b < x_wr a
    · rw [if_pos h, if_pos ((x_lt b a).mpr h)]
    · rw [if_neg h, if_neg (fun z => h ((x_lt b a).mp z))]
theorem g_oinit (hd : decode cc pc = .ok (.invokespecial idx, 3)) (hw1 : Cond.methodLink own idx objectInit ∈ x_T) (hw2 : Cond.instanceMethod objectInit ∈ x_T) (hw3 : Cond.code objectInit ⟨#[0xb1]⟩ 1 none ∈ x_T) (hd1 : 1 ≤ d) (hcat : (st.map x_cat).sum ≤ 8) (kk : xGo l own cc nL ret ini d mc ms Q n cu su (pc + 3) lv st ρ σ) : xGo l own cc nL ret ini d mc ms Q n cu su pc lv (xR t i :: st) ρ σ := by
  intro p e s m args below meth c B D cy zz H locs ls hC hR hS hl
  obtain ⟨hx, hbc, hml, hown, hts, hrt, hlk, hin, hK⟩ := id hC
  refine W.objInit hx hbc hown (hts _ hw1) (hts _ hw2) (hts _ hw3) rfl (hl.1.trans hml.symm) rfl hd hd1 ?_ (kk p e s m args below meth c B D cy zz H locs ls hC hR hS hl)
  show 2 * 0 + ((st.map (x_tv B)).map fun v => v.category).sum + 12 ≤ 100 * d
  rw [x_cat_sum]; omega
theorem g_tin {dflt lo hi off a : Int} {offs : Array Int} {len : Nat} (tgt : Nat) (hd : decode cc pc = .ok (.tableswitch dflt lo hi offs, len)) (h1 : lo ≤ x_wr a) (h2 : x_wr a ≤ hi) (ho : offs[(x_wr a - lo).toNat]? = some off) (ht : (pc : Int) + off = (tgt : Int)) (kk : xGo l own cc nL ret ini d mc ms Q n cu su tgt lv st ρ σ) : xGo l own cc nL ret ini d mc ms Q n cu su pc lv (xI a :: st) ρ σ := by
  intro p e s m args below meth c B D cy zz H locs ls hC hR hS hl
  exact lv_tableIn (x := Int32.ofInt a) hC.1 hC.2.1 hd (by show ¬ x_wr a < lo; omega) (by show ¬ hi < x_wr a; omega) ho ht (kk p e s m args below meth c B D cy zz H locs ls hC hR hS hl)
theorem g_tout {dflt lo hi a : Int} {offs : Array Int} {len : Nat} (tgt : Nat) (hd : decode cc pc = .ok (.tableswitch dflt lo hi offs, len)) (h : x_wr a < lo ∨ hi < x_wr a) (ht : (pc : Int) + dflt = (tgt : Int)) (kk : xGo l own cc nL ret ini d mc ms Q n cu su tgt lv st ρ σ) : xGo l own cc nL ret ini d mc ms Q n cu su pc lv (xI a :: st) ρ σ := by
  intro p e s m args below meth c B D cy zz H locs ls hC hR hS hl
  exact lv_tableOut (x := Int32.ofInt a) hC.1 hC.2.1 hd h ht (kk p e s m args below meth c B D cy zz H locs ls hC hR hS hl)
end
