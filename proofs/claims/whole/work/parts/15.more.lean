section
variable {l : Launch} {own : String} {cc : ByteArray} {nL : Nat} {ret : Option FieldType} {ini : xB} {d mc ms : Nat} {Q : xP} {n cu su pc : Nat} {lv lv' : List (Nat × xV)} {st rest : List xV} {ρ : xMr} {σ : xMi} {t i ci k idx : Nat}
theorem g_cast {a b : Int} (j : Nat) (hd : decode cc pc = .ok (.castore, 1)) (ha : a = (j : Int)) (hj : j < x_ln t i) (hv : x_vd n t i) (hs : x_sh t = .inl 1) (hb2 : vp_nar .char (Int32.ofInt b) = Int32.ofInt b) (kk : xGo l own cc nL ret ini d mc ms Q n cu su (pc + 1) lv st ρ (x_up σ t i j b)) : xGo l own cc nL ret ini d mc ms Q n cu su pc lv (xI b :: xI a :: xR t i :: st) ρ σ := by
  intro p e s m args below meth c B D cy zz H locs ls hC hR hS hl
  subst ha
  have he := x_wl_vd B cy ρ σ hv
  rw [x_ce_a hs (by omega)] at he
  have hb := x_ln_lt t i
  refine va_cast (f := fun k => Int32.ofInt (σ t i k)) hC.1 hC.2.1 hC.2.2.2.2.2.2.2.2.1 hR.1 (x_wl_D B cy n ρ σ) hS.1 (x_od t i) 1 he rfl (x_vin hj hb) hd (fun H1 locs1 hP1 hD1 hS1 => ?_)
  rw [x_wl_set B cy (ρ' := ρ) (σ' := x_up σ t i j b) hR.2 hv] at hP1
  · exact kk p e s m args below meth c B D cy zz H1 locs1 ls hC ⟨hP1, hR.2⟩ ⟨hS1, hS.2⟩ hl
  · refine x_ast_e hs (by omega) _ (fun q => ?_)
    rw [x_clamp (by omega), x_up_s, hb2]
    unfold upd
    split <;> rfl
  · intro t' i' ho
    exact x_ce_eq (fun _ => rfl) (fun k' => x_up_o ho k')
theorem g_zast {a b : Int} (j : Nat) (hd : decode cc pc = .ok (.bastore, 1)) (ha : a = (j : Int)) (hj : j < x_ln t i) (hv : x_vd n t i) (hs : x_sh t = .inl 2) (hb2 : vp_nar .boolean (Int32.ofInt b) = Int32.ofInt b) (kk : xGo l own cc nL ret ini d mc ms Q n cu su (pc + 1) lv st ρ (x_up σ t i j b)) : xGo l own cc nL ret ini d mc ms Q n cu su pc lv (xI b :: xI a :: xR t i :: st) ρ σ := by
  intro p e s m args below meth c B D cy zz H locs ls hC hR hS hl
  subst ha
  have he := x_wl_vd B cy ρ σ hv
  rw [x_ce_a hs (by omega)] at he
  have hb := x_ln_lt t i
  refine va_zast (f := fun k => Int32.ofInt (σ t i k)) hC.1 hC.2.1 hC.2.2.2.2.2.2.2.2.1 hR.1 (x_wl_D B cy n ρ σ) hS.1 (x_od t i) 2 he rfl (x_vin hj hb) hd (fun H1 locs1 hP1 hD1 hS1 => ?_)
  rw [x_wl_set B cy (ρ' := ρ) (σ' := x_up σ t i j b) hR.2 hv] at hP1
  · exact kk p e s m args below meth c B D cy zz H1 locs1 ls hC ⟨hP1, hR.2⟩ ⟨hS1, hS.2⟩ hl
  · refine x_ast_e hs (by omega) _ (fun q => ?_)
    rw [x_clamp (by omega), x_up_s, hb2]
    unfold upd
    split <;> rfl
  · intro t' i' ho
    exact x_ce_eq (fun _ => rfl) (fun k' => x_up_o ho k')
theorem g_aald {a : Int} {t2 i2 : Nat} (j : Nat) (hd : decode cc pc = .ok (.aaload, 1)) (ha : a = (j : Int)) (hj : j < x_ln t i) (hv : x_vd n t i) (hs : x_sh t = .inl 3) (hr : ρ t i j = some (t2, i2)) (kk : xGo l own cc nL ret ini d mc ms Q n cu su (pc + 1) lv (xR t2 i2 :: st) ρ σ) : xGo l own cc nL ret ini d mc ms Q n cu su pc lv (xI a :: xR t i :: st) ρ σ := by
  intro p e s m args below meth c B D cy zz H locs ls hC hR hS hl
  subst ha
  have he := x_wl_vd B cy ρ σ hv
  rw [x_ce_3 hs] at he
  have hb := x_ln_lt t i
  refine va_aldq hC.1 hC.2.1 hC.2.2.2.2.2.2.2.2.1 hR.1 (x_od t i) 3 he rfl (x_vin hj hb) hd ?_
  rw [x_clamp (by omega), hr]
  exact kk p e s m args below meth c B D cy zz H locs ls hC hR hS hl
theorem g_aast {a : Int} {t2 i2 : Nat} (j : Nat) (hd : decode cc pc = .ok (.aastore, 1)) (ha : a = (j : Int)) (hj : j < x_ln t i) (hv : x_vd n t i) (hs : x_sh t = .inl 3) (hv2 : x_vd n t2 i2) (hs2 : x_sh t2 = .inr 0) (kk : xGo l own cc nL ret ini d mc ms Q n cu su (pc + 1) lv st (x_ur ρ t i j (some (t2, i2))) σ) : xGo l own cc nL ret ini d mc ms Q n cu su pc lv (xR t2 i2 :: xI a :: xR t i :: st) ρ σ := by
  intro p e s m args below meth c B D cy zz H locs ls hC hR hS hl
  subst ha
  have he := x_wl_vd B cy ρ σ hv
  rw [x_ce_3 hs] at he
  have he2 := x_wl_vd B cy ρ σ hv2
  rw [x_ce_o hs2] at he2
  have hb := x_ln_lt t i
  refine va_astq (r := (RX0, TX0, 12)) hC.1 hC.2.1 hC.2.2.2.2.2.2.2.2.1 hR.1 (x_wl_D B cy n ρ σ) hS.1 (x_od t i) 3 (x_od t2 i2) 0 he rfl he2 rfl (x_vin hj hb) hd (fun H1 locs1 hP1 hD1 hS1 => ?_)
  rw [x_wl_set B cy (ρ' := x_ur ρ t i j (some (t2, i2))) (σ' := σ) hR.2 hv] at hP1
  · exact kk p e s m args below meth c B D cy zz H1 locs1 ls hC ⟨hP1, hR.2⟩ ⟨hS1, hS.2⟩ hl
  · rw [x_ce_3 hs]
    congr 7
    funext q
    rw [x_clamp (by omega), x_ur_s]
    unfold va_up
    split <;> rfl
  · intro t' i' ho
    exact x_ce_eq (fun k' => x_ur_o ho k') (fun _ => rfl)
/-- the world grows by one cell -/
theorem x_grow {B : Nat} {D : va_G} {cy : Nat → ClassId} {H1 : Heap} {ρ' : xMr} {σ' : xMi} {q : Nat} {e : va_E} (hn : n + 1 ≤ 154) (hiv : x_iv n = (t, i)) (hod : x_od t i = n) (hq : q = B + n) (he : e = x_ce B cy ρ' σ' t i) (ho : ∀ t' i', ¬ (t' = t ∧ i' = i) → x_ce B cy ρ' σ' t' i' = x_ce B cy ρ σ t' i') (h : va_P D x_cl (x_wl B cy n ρ σ ++ [(q, e)]) H1) : x_R B D cy (n + 1) ρ' σ' H1 := by
  refine ⟨?_, hn⟩
  have e1 : x_wl B cy (n + 1) ρ' σ' = x_wl B cy n ρ σ ++ [(q, e)] := by
    unfold x_wl
    rw [List.range_succ, List.map_append]
    congr 1
    · apply List.map_congr_left
      intro j hj
      have hj' := List.mem_range.mp hj
      rw [ho]
      intro z
      have h1 := x_odiv j (by omega)
      rw [z.1, z.2, hod] at h1
      omega
    · rw [List.map_cons, List.map_nil, hiv, hq, he]
  rw [e1]
  exact h
theorem x_zr_o {t' i' : Nat} (h : ¬ (t' = t ∧ i' = i)) (k' : Nat) : x_zr σ t i t' i' k' = σ t' i' k' := if_neg h
theorem x_zn_o {t' i' : Nat} (h : ¬ (t' = t ∧ i' = i)) (k' : Nat) : x_zn ρ t i t' i' k' = ρ t' i' k' := if_neg h
theorem x_zr_s (k' : Nat) : x_zr σ t i t i k' = 0 := if_pos ⟨rfl, rfl⟩
theorem x_zn_s (k' : Nat) : x_zn ρ t i t i k' = none := if_pos ⟨rfl, rfl⟩
/-- an object is made -/
theorem g_new {C : String} {T : u_T} {N : Nat} (hd : decode cc pc = .ok (.new idx, 3)) (h0 : 0 < n ∨ cu = 0) (hc : x_cl[ci]? = some (C, T, N)) (hw1 : Cond.classLink own idx C ∈ x_T) (hw2 : Cond.instantiable C N ∈ x_T) (hw3 : Cond.initialized C ∈ x_T) (hs : x_sh t = .inr ci) (hn : n + 1 ≤ 154) (hiv : x_iv n = (t, i)) (hod : x_od t i = n) (hc1 : cu + 1 ≤ mc) (hs1 : su + N ≤ ms)
    (kk : xGo l own cc nL ret ini d mc ms Q (n + 1) (cu + 1) (su + N) (pc + 3) lv (xR t i :: st) (x_zn ρ t i) (x_zr σ t i)) : xGo l own cc nL ret ini d mc ms Q n cu su pc lv st ρ σ := by
  intro p e s m args below meth c B D cy zz H locs ls hC hR hS hl T0 hT X
  have hz := x_size h0 hR hS hT X
  obtain ⟨hx, hbc, hml, hown, hts, hrt, hlk, hin, hK⟩ := id hC
  obtain ⟨ty, h1, h2, h3, h4, h5⟩ := x_cof hc
  obtain ⟨hS1, hS2⟩ := hS
  have hKn := hK.1.1 ci _ hc
  have key : W p l e (x_rm d mc ms) s m args below meth c H locs cu su (MQ below (x_Q B D cy Q) args s mc ms (fun q => B ≤ q)) (F0 m pc ls (st.map (x_tv B))) := by
    refine W.newcK hx hbc hown (hts _ hw1) (hts _ hw2) (hts _ hw3) rfl hd hc1 hs1 hKn.2.1 rfl fun H1 kC hkC e1 z1 o1 => ?_
    have hk : ∀ (k : Nat) (x : Nat × va_E), (x_wl B cy n ρ σ)[k]? = some x → H1[x.1]? = H[x.1]? := fun k x hx => o1 x.1 ((hR.1 k x hx).lt)
    have hP1 : va_P D x_cl (x_wl B cy n ρ σ ++ [(H.size, .inr (ci, (List.range (x_nf ci)).map (x_fv B (x_zn ρ t i) (x_zr σ t i) t i ci)))]) H1 := by
      refine (hR.1.kept hk).app (fun k x hx => ?_)
      have hz : k < 1 := (List.getElem?_eq_some_iff.mp hx).1
      rw [show k = 0 by omega] at hx
      cases hx
      refine ⟨_, hc, (u_born ty hts h1 hKn hkC e1 h2).to (fun j hj => ?_)⟩
      have h6 := h5 j hj
      have e2 : vp_V ((List.range (x_nf ci)).map (x_fv B (x_zn ρ t i) (x_zr σ t i) t i ci)) j = x_fv B (x_zn ρ t i) (x_zr σ t i) t i ci j := by
        unfold vp_V
        rw [List.getD_eq_getElem?_getD, x_fs_get h4 hj]
        rfl
      rw [e2]
      unfold x_fv
      rw [x_zr_s, x_zn_s]
      by_cases hk1 : x_kd ci j = 1
      · rw [if_pos hk1]
        have h7 := (h6.2.2 hk1).2.2
        revert h7
        cases ty j <;> intro h7 <;> first | rfl | cases h7
      · rw [if_neg hk1]
        by_cases hk2 : x_kd ci j = 2
        · rw [if_pos hk2, (h6.2.1 hk2).1]; rfl
        · rw [if_neg hk2]
          have hk0 : x_kd ci j = 0 := by
            have h8 : x_kd ci j < 3 := by unfold x_kd; (repeat' split) <;> omega
            omega
          rw [(h6.1 hk0).1]; rfl
    have hR1 : x_R B D cy (n + 1) (x_zn ρ t i) (x_zr σ t i) H1 := x_grow hn hiv hod hz (x_ce_o hs).symm (fun t' i' ho => x_ce_eq (fun k' => x_zn_o ho k') (fun k' => x_zr_o ho k')) hP1
    have e3 := kk p e s m args below meth c B D cy zz H1 locs ls hC hR1 ⟨⟨Nat.le_trans hS1.1 (by omega), fun x h1 h2 => (o1 x (Nat.lt_of_lt_of_le h1 hS1.1)).trans (hS1.2.1 x h1 h2), hS1.2.2⟩, by omega⟩ hl
    have e4 : x_tv B (xR t i) = .ref H.size := by show Value.ref (B + x_od t i) = _; rw [hod, hz]
    rw [List.map_cons, e4] at e3
    exact e3
  exact key T0 hT X
end
