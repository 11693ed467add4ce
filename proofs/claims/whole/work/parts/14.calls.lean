section
variable {l : Launch} {own : String} {cc : ByteArray} {nL : Nat} {ret : Option FieldType} {ini : xB} {d mc ms : Nat} {Q : xP} {n cu su pc : Nat} {lv lv' : List (Nat × xV)} {st rest : List xV} {ρ : xMr} {σ : xMi} {t i ci k idx : Nat}
/-! returns -/
theorem g_iret {a : Int} (hd : decode cc pc = .ok (.ireturn, 1)) (hq : Q (some (xI a)) n ρ σ) (hc : cu ≤ mc) (hs : su ≤ ms) : xGo l own cc nL (some .int) ini d mc ms Q n cu su pc lv [xI a] ρ σ := by
  intro p e s m args below meth c B D cy zz H locs ls hC hR hS hl
  refine W.widen (k := mc) (n := ms) hc hs ?_
  exact W.iret (v := Int32.ofInt a) hC.1 hC.2.1 hC.2.2.2.2.2.1 (fun t ht hW => ⟨⟨some (xI a), n, ρ, σ, rfl, hq, by rw [ht]; exact hR⟩, hS.1.F ht⟩) hS.1.2.2 hd (hlocks := hC.2.2.2.2.2.2.1)
theorem g_zret {a : Int} (hd : decode cc pc = .ok (.ireturn, 1)) (ha : a = 0 ∨ a = 1) (hq : Q (some (xI a)) n ρ σ) (hc : cu ≤ mc) (hs : su ≤ ms) : xGo l own cc nL (some .boolean) ini d mc ms Q n cu su pc lv [xI a] ρ σ := by
  intro p e s m args below meth c B D cy zz H locs ls hC hR hS hl
  refine W.widen (k := mc) (n := ms) hc hs ?_
  exact W.zret (v := Int32.ofInt a) (ty := .boolean) hC.1 hC.2.1 hC.2.2.2.2.2.1 (by rcases ha with rfl | rfl <;> rfl) (fun t ht hW => ⟨⟨some (xI a), n, ρ, σ, rfl, hq, by rw [ht]; exact hR⟩, hS.1.F ht⟩) hS.1.2.2 hd (hlocks := hC.2.2.2.2.2.2.1)
theorem g_cret {a : Int} (hd : decode cc pc = .ok (.ireturn, 1)) (ha : narrow .char (.int (Int32.ofInt a)) = .int (Int32.ofInt a)) (hq : Q (some (xI a)) n ρ σ) (hc : cu ≤ mc) (hs : su ≤ ms) : xGo l own cc nL (some .char) ini d mc ms Q n cu su pc lv [xI a] ρ σ := by
  intro p e s m args below meth c B D cy zz H locs ls hC hR hS hl
  refine W.widen (k := mc) (n := ms) hc hs ?_
  exact W.zret (v := Int32.ofInt a) (ty := .char) hC.1 hC.2.1 hC.2.2.2.2.2.1 ha (fun t ht hW => ⟨⟨some (xI a), n, ρ, σ, rfl, hq, by rw [ht]; exact hR⟩, hS.1.F ht⟩) hS.1.2.2 hd (hlocks := hC.2.2.2.2.2.2.1)
theorem g_bret {a : Int} (hd : decode cc pc = .ok (.ireturn, 1)) (ha : narrow .byte (.int (Int32.ofInt a)) = .int (Int32.ofInt a)) (hq : Q (some (xI a)) n ρ σ) (hc : cu ≤ mc) (hs : su ≤ ms) : xGo l own cc nL (some .byte) ini d mc ms Q n cu su pc lv [xI a] ρ σ := by
  intro p e s m args below meth c B D cy zz H locs ls hC hR hS hl
  refine W.widen (k := mc) (n := ms) hc hs ?_
  exact W.zret (v := Int32.ofInt a) (ty := .byte) hC.1 hC.2.1 hC.2.2.2.2.2.1 ha (fun t ht hW => ⟨⟨some (xI a), n, ρ, σ, rfl, hq, by rw [ht]; exact hR⟩, hS.1.F ht⟩) hS.1.2.2 hd (hlocks := hC.2.2.2.2.2.2.1)
theorem g_lret {a : Int} (hd : decode cc pc = .ok (.lreturn, 1)) (hq : Q (some (xJ a)) n ρ σ) (hc : cu ≤ mc) (hs : su ≤ ms) : xGo l own cc nL (some .long) ini d mc ms Q n cu su pc lv [xJ a] ρ σ := by
  intro p e s m args below meth c B D cy zz H locs ls hC hR hS hl
  refine W.widen (k := mc) (n := ms) hc hs ?_
  exact W.lret (v := Int64.ofInt a) hC.1 hC.2.1 hC.2.2.2.2.2.1 (fun t ht hW => ⟨⟨some (xJ a), n, ρ, σ, rfl, hq, by rw [ht]; exact hR⟩, hS.1.F ht⟩) hS.1.2.2 hd (hlocks := hC.2.2.2.2.2.2.1)
theorem g_vret (hd : decode cc pc = .ok (.return_, 1)) (hq : Q none n ρ σ) (hc : cu ≤ mc) (hs : su ≤ ms) : xGo l own cc nL none ini d mc ms Q n cu su pc lv [] ρ σ := by
  intro p e s m args below meth c B D cy zz H locs ls hC hR hS hl
  refine W.widen (k := mc) (n := ms) hc hs ?_
  exact W.vret hC.1 hC.2.1 hC.2.2.2.2.2.1 (fun t ht hW => ⟨⟨none, n, ρ, σ, rfl, hq, by rw [ht]; exact hR⟩, hS.1.F ht⟩) hS.1.2.2 hd (hlocks := hC.2.2.2.2.2.2.1)
/-! calls -/
variable {y : MethodName} {own' : String} {cc' : ByteArray} {nL' : Nat} {ret' : Option FieldType} {ini' : xB} {d' mc' ms' na : Nat} {As : List xV} {Q' : xP}
theorem x_size {p : Program} {e : Env} {R : Room} {s : State} {m : MethodId} {args : Array Value} {below : List Frame} {meth : Method} {c : Code} {B : Nat} {D : va_G} {cy : Nat → ClassId} {H : Heap} {locs : List Loc} {T : State} {sl : Nat} (hn0 : 0 < n ∨ cu = 0) (hR : x_R B D cy n ρ σ H) (hS : x_S B n cu s H locs) (hT : T.heap = H) (X : Stand p l e R s m args below meth c T locs cu sl) : H.size = B + n := by
  have h1 := X.heapSize
  rw [hT] at h1
  have h2 := hS.1.1
  have h3 := hS.2
  by_cases h0 : n = 0
  · omega
  · have h4 := (hR.1 (n - 1) _ (x_wl_get B cy ρ σ (by omega))).lt
    have h5 : B + (n - 1) < H.size := h4
    omega
theorem x_pay {args : Array Value} {s : State} {ml : Nat} {bb : ByteArray} {rr : Option FieldType} (hts : ∀ w ∈ x_T, w.before args s = true) (hcode : Cond.code y bb ml rr ∈ x_T) : ∀ w ∈ (Cond.code y bb ml rr :: x_T), ∀ (a' : Array Value) (U : State), s.WarmedH U.vm → w.before a' U = true := by
  intro w hw a' U hW
  have h : w ∈ x_T := by
    rcases List.mem_cons.mp hw with h | h
    · rw [h]; exact hcode
    · exact h
  exact word_at hW (good_of_word (List.mem_filter.mp h).2) (hts w h)
theorem x_blind {B : Nat} {D : va_G} {cy : Nat → ClassId} {zz : xZ} {av : List Value} : FrameBlind (va_Pc av (fun U => x_R B D cy n ρ σ U.heap ∧ U.heap.size = B + n ∧ x_K B D cy zz U)) := by
  intro a U g mk h
  exact ⟨h.1, h.2.1, h.2.2.1, x_K.call g mk a h.2.2.2⟩
theorem x_len {na : Nat} (h : (parseMethodDescriptor y.desc).map (fun d => d.parameters.length) = some na) : ∀ sig, parseMethodDescriptor y.desc = some sig → na = sig.parameters.length := by
  intro sig hs
  rw [hs] at h
  exact (Option.some.inj h).symm
/-- behind a call -/
theorem x_after {p : Program} {e : Env} {s : State} {m : MethodId} {args : Array Value} {below : List Frame} {meth : Method} {c : Code} {B : Nat} {D : va_G} {cy : Nat → ClassId} {zz : xZ} {H : Heap} {locs : List Loc} {ls : Array Slot} {st0 : List Value}
    (hC : x_C (own, cc, nL, ret, ini) p s m args meth c B D cy zz) (hS : x_S B n cu s H locs) (hl : lv_has ls nL (x_lv B lv)) (hz : H.size = B + n) (hn' : ∀ r n' ρ' σ', Q' r n' ρ' σ' → n' = n + mc')
    (k : ∀ r n' ρ' σ', Q' r n' ρ' σ' → xGo l own cc nL ret ini d mc ms Q n' (cu + mc') (su + ms') (pc + 3) lv (r.toList ++ rest) ρ' σ') {aa : Array Value}
    (run : va_Run p l e (x_rm d mc ms) s m args below meth c H locs cu su mc' ms' (F0 m pc ls st0) (rest.map (x_tv B)) (x_Q B D cy Q' aa) (fun q => B ≤ q)) {T : State} (hT : T.heap = H) (X : Stand p l e (x_rm d mc ms) s m args below meth c T locs cu su) :
    ∃ t, Steps p.tables e below (T.setTop (F0 m pc ls st0)) t ∧ MQ below (x_Q B D cy Q) args s mc ms (fun q => B ≤ q) t := by
  obtain ⟨v, st₀, t, T', L, h0, X', hL, e1, e2, ⟨⟨r, n', ρ', σ', hv, hq, hR'⟩, hz1, hk⟩, st⟩ := run T hT X
  have hv' : v = r.map (x_tv B) := by injection hv
  subst hv'
  rw [h0] at hz1 hk
  have hn := hn' r n' ρ' σ' hq
  have hA : ∀ q, s.heap.size ≤ q → B ≤ q → True := fun _ _ _ => trivial
  obtain ⟨t2, a1, b1⟩ := k r n' ρ' σ' hq p e s m args below meth c B D cy zz T'.heap (locs ++ L) ls hC (by rw [e1]; exact hR')
    ⟨⟨Nat.le_trans hS.1.1 (by rw [e1]; exact hz1), fun q h1 h2 => by rw [e1, hk q (Nat.lt_of_lt_of_le h1 hS.1.1) h2]; exact hS.1.2.1 q h1 h2, fun q hq => by
      rcases List.mem_append.mp hq with h | h
      · exact hS.1.2.2 q h
      · exact hL q h⟩, by have := hS.2; omega⟩ hl T' rfl X'
  refine ⟨t2, st t2 ?_, b1⟩
  have e3 : (r.toList ++ rest).map (x_tv B) = (r.map (x_tv B)).toList ++ rest.map (x_tv B) := by
    cases r <;> simp
  rw [e3] at a1
  exact a1
theorem x_callV (hd : decode cc pc = .ok (.invokevirtual idx, 3)) (hw : x_cV own idx y) (hb : x_cB y cc' nL' ret' na) (hSp : x_Sp l y (own', cc', nL', ret', ini') d' mc' ms' n ρ σ (xR t i :: As) Q') (hzz : ∀ w, ini'.2 = some w → ini.2 = some w) (hv : x_vd n t i) (hs : x_sh t = .inr ci) (hci : ∀ q, x_cl[ci]? = some q → q.1 = y.cls) (hci2 : ci < 8) (hna : As.length = na) (hcat : (rest.map x_cat).sum ≤ 8) (hdd : d' + 1 ≤ d) (hnl : nL' ≤ 80) (hc : cu + mc' ≤ mc) (hsl : su + ms' ≤ ms) (hn' : ∀ r n' ρ' σ', Q' r n' ρ' σ' → n' = n + mc')
    (kk : ∀ r n' ρ' σ', Q' r n' ρ' σ' → xGo l own cc nL ret ini d mc ms Q n' (cu + mc') (su + ms') (pc + 3) lv (r.toList ++ rest) ρ' σ') : xGo l own cc nL ret ini d mc ms Q n cu su pc lv (As.reverse ++ xR t i :: rest) ρ σ := by
  intro p e s m args below meth c B D cy zz H locs ls hC hR hS hl T hT X
  have hn0 : 0 < n := Nat.lt_of_le_of_lt (Nat.zero_le _) hv.2
  have hz := x_size (Or.inl hn0) hR hS hT X
  obtain ⟨hx, hbc, hml, hown, hts, hrt, hlk, hin, hK⟩ := id hC
  obtain ⟨w1, w2, w3⟩ := hw
  obtain ⟨b1, b2, b3, b4⟩ := hb
  have he := x_wl_vd B cy ρ σ hv
  rw [x_ce_o hs] at he
  obtain ⟨q, hq⟩ : ∃ q, x_cl[ci]? = some q := by
    match ci, hci2 with
    | 0, _ => exact ⟨_, rfl⟩
    | 1, _ => exact ⟨_, rfl⟩
    | 2, _ => exact ⟨_, rfl⟩
    | 3, _ => exact ⟨_, rfl⟩
    | 4, _ => exact ⟨_, rfl⟩
    | 5, _ => exact ⟨_, rfl⟩
    | 6, _ => exact ⟨_, rfl⟩
    | 7, _ => exact ⟨_, rfl⟩
  have hrecv := va_recv hK.1 hR.1 hq he
  rw [hci q hq] at hrecv
  refine x_after hC hS hl hz hn' kk (aa := (Value.ref (B + x_od t i) :: As.map (x_tv B)).toArray) ?_ hT X
  refine va_runV (C := y.cls) (n := na) (b := B + x_od t i) (As := As.map (x_tv B)) (Ts := x_T) (own := own) (index := idx) (bytes := cc') (maxL := nL') (ret := ret') ⟨hx, hbc, hml, hown, hts⟩ (hSp B D cy zz (fun w h => hin.2 w (hzz w h))) ⟨⟨rfl, rfl, hdd, ?_, x_pay hts b2, List.mem_cons_self, hts _ b2, hts _ b1, b3, x_len b4, hts _ w1⟩, hts _ w2, hts _ w3⟩ ⟨x_blind, hrecv, fun U hU hW => ⟨rfl, by rw [hU]; exact hR, by rw [hU]; exact hz, x_K.warm hW hU hS.1 hK⟩⟩ rfl (by rw [List.length_map]; exact hna) hl.1 ?_ (lv_room (by rw [x_cat_sum]; exact hcat)) hd ⟨hc, hsl⟩
  · show 8 + (nL' + 11) + 100 * d' ≤ 100 * d
    omega
  · show (As.reverse ++ xR t i :: rest).map (x_tv B) = _
    rw [List.map_append, List.map_reverse]; rfl
theorem x_callS (hn0 : 0 < n) (hd : decode cc pc = .ok (.invokestatic idx, 3)) (hw : x_cS own idx y) (hb : x_cB y cc' nL' ret' na) (hSp : x_Sp l y (own', cc', nL', ret', ini') d' mc' ms' n ρ σ As Q') (hzz : ∀ w, ini'.2 = some w → ini.2 = some w) (hna : As.length = na) (hcat : (rest.map x_cat).sum ≤ 8) (hdd : d' + 1 ≤ d) (hnl : nL' ≤ 80) (hc : cu + mc' ≤ mc) (hsl : su + ms' ≤ ms) (hn' : ∀ r n' ρ' σ', Q' r n' ρ' σ' → n' = n + mc')
    (kk : ∀ r n' ρ' σ', Q' r n' ρ' σ' → xGo l own cc nL ret ini d mc ms Q n' (cu + mc') (su + ms') (pc + 3) lv (r.toList ++ rest) ρ' σ') : xGo l own cc nL ret ini d mc ms Q n cu su pc lv (As.reverse ++ rest) ρ σ := by
  intro p e s m args below meth c B D cy zz H locs ls hC hR hS hl T hT X
  have hz := x_size (Or.inl hn0) hR hS hT X
  obtain ⟨hx, hbc, hml, hown, hts, hrt, hlk, hin, hK⟩ := id hC
  obtain ⟨w1, w2⟩ := hw
  obtain ⟨b1, b2, b3, b4⟩ := hb
  refine x_after hC hS hl hz hn' kk (aa := (As.map (x_tv B)).toArray) ?_ hT X
  refine va_runS (n := na) (As := As.map (x_tv B)) (Ts := x_T) (own := own) (index := idx) (bytes := cc') (maxL := nL') (ret := ret') ⟨hx, hbc, hml, hown, hts⟩ (hSp B D cy zz (fun w h => hin.2 w (hzz w h))) ⟨⟨rfl, rfl, hdd, ?_, x_pay hts b2, List.mem_cons_self, hts _ b2, hts _ b1, b3, x_len b4, hts _ w1⟩, hts _ w2⟩ ⟨x_blind, fun U hU hW => ⟨rfl, by rw [hU]; exact hR, by rw [hU]; exact hz, x_K.warm hW hU hS.1 hK⟩⟩ rfl (by rw [List.length_map]; exact hna) hl.1 ?_ (lv_room (by rw [x_cat_sum]; exact hcat)) hd ⟨hc, hsl⟩
  · show 8 + (nL' + 11) + 100 * d' ≤ 100 * d
    omega
  · show (As.reverse ++ rest).map (x_tv B) = _
    rw [List.map_append, List.map_reverse]
theorem x_callI (hn0 : 0 < n) (hd : decode cc pc = .ok (.invokespecial idx, 3)) (hw : x_cI own idx y) (hb : x_cB y cc' nL' none na) (hSp : x_Sp l y (own', cc', nL', none, ini') d' mc' ms' n ρ σ (xR t i :: As) Q') (hzz : ∀ w, ini'.2 = some w → ini.2 = some w) (hna : As.length = na) (hcat : (rest.map x_cat).sum ≤ 8) (hdd : d' + 1 ≤ d) (hnl : nL' ≤ 80) (hc : cu + mc' ≤ mc) (hsl : su + ms' ≤ ms) (hn' : ∀ r n' ρ' σ', Q' r n' ρ' σ' → n' = n + mc')
    (kk : ∀ r n' ρ' σ', Q' r n' ρ' σ' → xGo l own cc nL ret ini d mc ms Q n' (cu + mc') (su + ms') (pc + 3) lv (r.toList ++ rest) ρ' σ') : xGo l own cc nL ret ini d mc ms Q n cu su pc lv (As.reverse ++ xR t i :: rest) ρ σ := by
  intro p e s m args below meth c B D cy zz H locs ls hC hR hS hl T hT X
  have hz := x_size (Or.inl hn0) hR hS hT X
  obtain ⟨hx, hbc, hml, hown, hts, hrt, hlk, hin, hK⟩ := id hC
  obtain ⟨w1, w2, w3⟩ := hw
  obtain ⟨b1, b2, b3, b4⟩ := hb
  refine x_after hC hS hl hz hn' kk (aa := (Value.ref (B + x_od t i) :: As.map (x_tv B)).toArray) ?_ hT X
  refine va_runI (n := na) (b := B + x_od t i) (As := As.map (x_tv B)) (Ts := x_T) (own := own) (index := idx) (bytes := cc') (maxL := nL') ⟨hx, hbc, hml, hown, hts⟩ (hSp B D cy zz (fun w h => hin.2 w (hzz w h))) ⟨⟨rfl, rfl, hdd, ?_, x_pay hts b2, List.mem_cons_self, hts _ b2, hts _ b1, b3, x_len b4, hts _ w1⟩, w3, hts _ w2⟩ ⟨x_blind, fun U hU hW => ⟨rfl, by rw [hU]; exact hR, by rw [hU]; exact hz, x_K.warm hW hU hS.1 hK⟩⟩ rfl (by rw [List.length_map]; exact hna) hl.1 ?_ (lv_room (by rw [x_cat_sum]; exact hcat)) hd ⟨hc, hsl⟩
  · show 8 + (nL' + 11) + 100 * d' ≤ 100 * d
    omega
  · show (As.reverse ++ xR t i :: rest).map (x_tv B) = _
    rw [List.map_append, List.map_reverse]; rfl
theorem x_callN {host : String} (hn0 : 0 < n) (hd : decode cc pc = .ok (.invokespecial idx, 3)) (hw : x_cN own idx y host) (hb : x_cB y cc' nL' none na) (hSp : x_Sp l y (own', cc', nL', none, ini') d' mc' ms' n ρ σ (xR t i :: As) Q') (hzz : ∀ w, ini'.2 = some w → ini.2 = some w) (hna : As.length = na) (hcat : (rest.map x_cat).sum ≤ 8) (hdd : d' + 1 ≤ d) (hnl : nL' ≤ 80) (hc : cu + mc' ≤ mc) (hsl : su + ms' ≤ ms) (hn' : ∀ r n' ρ' σ', Q' r n' ρ' σ' → n' = n + mc')
    (kk : ∀ r n' ρ' σ', Q' r n' ρ' σ' → xGo l own cc nL ret ini d mc ms Q n' (cu + mc') (su + ms') (pc + 3) lv (r.toList ++ rest) ρ' σ') : xGo l own cc nL ret ini d mc ms Q n cu su pc lv (As.reverse ++ xR t i :: rest) ρ σ := by
  intro p e s m args below meth c B D cy zz H locs ls hC hR hS hl T hT X
  have hz := x_size (Or.inl hn0) hR hS hT X
  obtain ⟨hx, hbc, hml, hown, hts, hrt, hlk, hin, hK⟩ := id hC
  obtain ⟨w1, w2, w3⟩ := hw
  obtain ⟨b1, b2, b3, b4⟩ := hb
  refine x_after hC hS hl hz hn' kk (aa := (Value.ref (B + x_od t i) :: As.map (x_tv B)).toArray) ?_ hT X
  refine va_runIN (n := na) (b := B + x_od t i) (As := As.map (x_tv B)) (Ts := x_T) (own := own) (index := idx) (bytes := cc') (maxL := nL') (host := host) ⟨hx, hbc, hml, hown, hts⟩ (hSp B D cy zz (fun w h => hin.2 w (hzz w h))) ⟨⟨⟨rfl, rfl, hdd, ?_, x_pay hts b2, List.mem_cons_self⟩, hts _ b2, hts _ b1, b3, x_len b4, va_Nw.use rfl (w1 B zz s hK.2)⟩, w3, hts _ w2⟩ ⟨x_blind, fun U hU hW => ⟨rfl, by rw [hU]; exact hR, by rw [hU]; exact hz, x_K.warm hW hU hS.1 hK⟩⟩ rfl (by rw [List.length_map]; exact hna) hl.1 ?_ (lv_room (by rw [x_cat_sum]; exact hcat)) hd ⟨hc, hsl⟩
  · show 8 + (nL' + 11) + 100 * d' ≤ 100 * d
    omega
  · show (As.reverse ++ xR t i :: rest).map (x_tv B) = _
    rw [List.map_append, List.map_reverse]; rfl
end
