section
variable {l : Launch} {own : String} {cc : ByteArray} {nL : Nat} {ret : Option FieldType} {ini : xB} {d mc ms : Nat} {Q : xP} {n cu su pc : Nat} {lv lv' : List (Nat × xV)} {st : List xV} {ρ : xMr} {σ : xMi}
/-- a local's value -/
def x_lg (lv : List (Nat × xV)) (i : Nat) : Option xV := (lv.find? (fun q => q.1 == i)).map (fun q => q.2)
def x_ls (lv : List (Nat × xV)) (i : Nat) (v : xV) : List (Nat × xV) := (i, v) :: lv.filter (fun q => !(q.1 == i) && !(q.1 + 1 == i && x_cat q.2 == 2))
def x_lsJ (lv : List (Nat × xV)) (i : Nat) (v : xV) : List (Nat × xV) := (i, v) :: lv.filter (fun q => !(q.1 == i) && (!(q.1 == i + 1) && !(q.1 + 1 == i && x_cat q.2 == 2)))
theorem x_lg_at {B : Nat} {ls : Array Slot} {i : Nat} {v : xV} (h : x_lg lv i = some v) (hl : lv_has ls nL (x_lv B lv)) : ls[i]? = some (.val (x_tv B v)) := by
  unfold x_lg at h
  obtain ⟨q, hq, e⟩ := Option.map_eq_some_iff.mp h
  have h1 : q.1 = i := by simpa using List.find?_some hq
  have h2 := List.mem_of_find?_eq_some hq
  have h3 := hl.2.2 (q.1, x_tv B q.2) (List.mem_map.mpr ⟨q, h2, rfl⟩)
  rw [← h1, ← e]
  exact h3
theorem x_ls_lv (B : Nat) (lv : List (Nat × xV)) (i : Nat) (v : xV) : (i, x_tv B v) :: (x_lv B lv).filter (fun q => !(q.1 == i) && !(q.1 + 1 == i && q.2.category == 2)) = x_lv B (x_ls lv i v) := by
  unfold x_ls x_lv
  rw [List.map_cons, List.filter_map]
  congr 2
  apply List.filter_congr
  intro q _
  simp only [Function.comp, x_cat_tv]
theorem x_lsJ_lv (B : Nat) (lv : List (Nat × xV)) (i : Nat) (v : xV) : (i, x_tv B v) :: (x_lv B lv).filter (fun q => !(q.1 == i) && (!(q.1 == i + 1) && !(q.1 + 1 == i && q.2.category == 2))) = x_lv B (x_lsJ lv i v) := by
  unfold x_lsJ x_lv
  rw [List.map_cons, List.filter_map]
  congr 2
  apply List.filter_congr
  intro q _
  simp only [Function.comp, x_cat_tv]
abbrev xGo (l : Launch) (own : String) (cc : ByteArray) (nL : Nat) (ret : Option FieldType) (ini : xB) (d mc ms : Nat) (Q : xP) (n cu su pc : Nat) (lv : List (Nat × xV)) (st : List xV) (ρ : xMr) (σ : xMi) : Prop := x_Go l (own, cc, nL, ret, ini) d mc ms Q n cu su pc lv st ρ σ
theorem g_iconst {k : Int} (hd : decode cc pc = .ok (.iconst k, 1)) (kk : xGo l own cc nL ret ini d mc ms Q n cu su (pc + 1) lv (xI k :: st) ρ σ) : xGo l own cc nL ret ini d mc ms Q n cu su pc lv st ρ σ := by
  intro p e s m args below meth c B D cy zz H locs ls hC hR hS hl
  exact lv_iconst hC.1 hC.2.1 hd rfl (kk p e s m args below meth c B D cy zz H locs ls hC hR hS hl)
theorem g_bipush {k : Int} (hd : decode cc pc = .ok (.bipush k, 2)) (hk : (Int8.ofInt k).toInt32 = Int32.ofInt k) (kk : xGo l own cc nL ret ini d mc ms Q n cu su (pc + 2) lv (xI k :: st) ρ σ) : xGo l own cc nL ret ini d mc ms Q n cu su pc lv st ρ σ := by
  intro p e s m args below meth c B D cy zz H locs ls hC hR hS hl
  exact lv_bipush hC.1 hC.2.1 hd hk (kk p e s m args below meth c B D cy zz H locs ls hC hR hS hl)
theorem g_sipush {k : Int} (hd : decode cc pc = .ok (.sipush k, 3)) (hk : (Int16.ofInt k).toInt32 = Int32.ofInt k) (kk : xGo l own cc nL ret ini d mc ms Q n cu su (pc + 3) lv (xI k :: st) ρ σ) : xGo l own cc nL ret ini d mc ms Q n cu su pc lv st ρ σ := by
  intro p e s m args below meth c B D cy zz H locs ls hC hR hS hl
  exact lv_sipush hC.1 hC.2.1 hd hk (kk p e s m args below meth c B D cy zz H locs ls hC hR hS hl)
theorem g_lconst {k : Fin 2} {a : Int} (hd : decode cc pc = .ok (.lconst k, 1)) (hk : Int64.ofNat (k : Nat) = Int64.ofInt a) (kk : xGo l own cc nL ret ini d mc ms Q n cu su (pc + 1) lv (xJ a :: st) ρ σ) : xGo l own cc nL ret ini d mc ms Q n cu su pc lv st ρ σ := by
  intro p e s m args below meth c B D cy zz H locs ls hC hR hS hl
  exact lv_lconst hC.1 hC.2.1 hd hk (kk p e s m args below meth c B D cy zz H locs ls hC hR hS hl)
theorem g_ldc {idx : Nat} {a : Int} {v : Int32} (hd : decode cc pc = .ok (.ldc idx, 2)) (hw : Cond.constant own idx v ∈ x_T) (hv : v = Int32.ofInt a) (kk : xGo l own cc nL ret ini d mc ms Q n cu su (pc + 2) lv (xI a :: st) ρ σ) : xGo l own cc nL ret ini d mc ms Q n cu su pc lv st ρ σ := by
  intro p e s m args below meth c B D cy zz H locs ls hC hR hS hl
  subst hv
  exact lv_ldc hC.1 hC.2.1 hC.2.2.2.1 (hC.2.2.2.2.1 _ hw) hd (kk p e s m args below meth c B D cy zz H locs ls hC hR hS hl)
theorem g_ldc2 {idx : Nat} {a : Int} {v : Int64} (hd : decode cc pc = .ok (.ldc2_w idx, 3)) (hw : Cond.constantLong own idx v ∈ x_T) (hv : v = Int64.ofInt a) (kk : xGo l own cc nL ret ini d mc ms Q n cu su (pc + 3) lv (xJ a :: st) ρ σ) : xGo l own cc nL ret ini d mc ms Q n cu su pc lv st ρ σ := by
  intro p e s m args below meth c B D cy zz H locs ls hC hR hS hl
  subst hv
  exact W.ldc2 hC.1 hC.2.1 hC.2.2.2.1 (hC.2.2.2.2.1 _ hw) rfl hd (kk p e s m args below meth c B D cy zz H locs ls hC hR hS hl)
theorem g_iload_n {k : Fin 4} {a : Int} (hd : decode cc pc = .ok (.iload_n k, 1)) (h : x_lg lv k = some (xI a)) (kk : xGo l own cc nL ret ini d mc ms Q n cu su (pc + 1) lv (xI a :: st) ρ σ) : xGo l own cc nL ret ini d mc ms Q n cu su pc lv st ρ σ := by
  intro p e s m args below meth c B D cy zz H locs ls hC hR hS hl
  exact lv_iload_n hC.1 hC.2.1 hd rfl (x_lg_at h hl) (kk p e s m args below meth c B D cy zz H locs ls hC hR hS hl)
theorem g_iload {k : Nat} {a : Int} (hd : decode cc pc = .ok (.iload k, 2)) (h : x_lg lv k = some (xI a)) (kk : xGo l own cc nL ret ini d mc ms Q n cu su (pc + 2) lv (xI a :: st) ρ σ) : xGo l own cc nL ret ini d mc ms Q n cu su pc lv st ρ σ := by
  intro p e s m args below meth c B D cy zz H locs ls hC hR hS hl
  exact lv_iload hC.1 hC.2.1 hd (x_lg_at h hl) (kk p e s m args below meth c B D cy zz H locs ls hC hR hS hl)
theorem g_lload_n {k : Fin 4} {a : Int} (hd : decode cc pc = .ok (.lload_n k, 1)) (h : x_lg lv k = some (xJ a)) (kk : xGo l own cc nL ret ini d mc ms Q n cu su (pc + 1) lv (xJ a :: st) ρ σ) : xGo l own cc nL ret ini d mc ms Q n cu su pc lv st ρ σ := by
  intro p e s m args below meth c B D cy zz H locs ls hC hR hS hl
  exact lv_lload_n hC.1 hC.2.1 hd rfl (x_lg_at h hl) (kk p e s m args below meth c B D cy zz H locs ls hC hR hS hl)
theorem g_lload {k : Nat} {a : Int} (hd : decode cc pc = .ok (.lload k, 2)) (h : x_lg lv k = some (xJ a)) (kk : xGo l own cc nL ret ini d mc ms Q n cu su (pc + 2) lv (xJ a :: st) ρ σ) : xGo l own cc nL ret ini d mc ms Q n cu su pc lv st ρ σ := by
  intro p e s m args below meth c B D cy zz H locs ls hC hR hS hl
  exact lv_lload hC.1 hC.2.1 hd (x_lg_at h hl) (kk p e s m args below meth c B D cy zz H locs ls hC hR hS hl)
theorem g_aload_n {k : Fin 4} {t i : Nat} (hd : decode cc pc = .ok (.aload_n k, 1)) (h : x_lg lv k = some (xR t i)) (kk : xGo l own cc nL ret ini d mc ms Q n cu su (pc + 1) lv (xR t i :: st) ρ σ) : xGo l own cc nL ret ini d mc ms Q n cu su pc lv st ρ σ := by
  intro p e s m args below meth c B D cy zz H locs ls hC hR hS hl
  exact lv_aload_n hC.1 hC.2.1 hd rfl (x_lg_at h hl) (kk p e s m args below meth c B D cy zz H locs ls hC hR hS hl)
theorem g_aload {k : Nat} {t i : Nat} (hd : decode cc pc = .ok (.aload k, 2)) (h : x_lg lv k = some (xR t i)) (kk : xGo l own cc nL ret ini d mc ms Q n cu su (pc + 2) lv (xR t i :: st) ρ σ) : xGo l own cc nL ret ini d mc ms Q n cu su pc lv st ρ σ := by
  intro p e s m args below meth c B D cy zz H locs ls hC hR hS hl
  exact lv_aload hC.1 hC.2.1 hd (x_lg_at h hl) (kk p e s m args below meth c B D cy zz H locs ls hC hR hS hl)
theorem g_istore_n {k : Fin 4} {a : Int} (hd : decode cc pc = .ok (.istore_n k, 1)) (hn : (k : Nat) < nL) (h : x_ls lv k (xI a) = lv') (kk : xGo l own cc nL ret ini d mc ms Q n cu su (pc + 1) lv' st ρ σ) : xGo l own cc nL ret ini d mc ms Q n cu su pc lv (xI a :: st) ρ σ := by
  intro p e s m args below meth c B D cy zz H locs ls hC hR hS hl
  subst h
  exact lv_istore_n hC.1 hC.2.1 hd rfl hl hn (x_ls_lv B lv k (xI a)) (fun ls' hl' => kk p e s m args below meth c B D cy zz H locs ls' hC hR hS hl')
theorem g_istore {k : Nat} {a : Int} (hd : decode cc pc = .ok (.istore k, 2)) (hn : k < nL) (h : x_ls lv k (xI a) = lv') (kk : xGo l own cc nL ret ini d mc ms Q n cu su (pc + 2) lv' st ρ σ) : xGo l own cc nL ret ini d mc ms Q n cu su pc lv (xI a :: st) ρ σ := by
  intro p e s m args below meth c B D cy zz H locs ls hC hR hS hl
  subst h
  exact lv_istore hC.1 hC.2.1 hd hl hn (x_ls_lv B lv k (xI a)) (fun ls' hl' => kk p e s m args below meth c B D cy zz H locs ls' hC hR hS hl')
theorem g_astore_n {k : Fin 4} {t i : Nat} (hd : decode cc pc = .ok (.astore_n k, 1)) (hn : (k : Nat) < nL) (h : x_ls lv k (xR t i) = lv') (kk : xGo l own cc nL ret ini d mc ms Q n cu su (pc + 1) lv' st ρ σ) : xGo l own cc nL ret ini d mc ms Q n cu su pc lv (xR t i :: st) ρ σ := by
  intro p e s m args below meth c B D cy zz H locs ls hC hR hS hl
  subst h
  exact lv_astore_n hC.1 hC.2.1 hd rfl hl hn (x_ls_lv B lv k (xR t i)) (fun ls' hl' => kk p e s m args below meth c B D cy zz H locs ls' hC hR hS hl')
theorem g_lstore_n {k : Fin 4} {a : Int} (hd : decode cc pc = .ok (.lstore_n k, 1)) (hn : (k : Nat) + 1 < nL) (h : x_lsJ lv k (xJ a) = lv') (kk : xGo l own cc nL ret ini d mc ms Q n cu su (pc + 1) lv' st ρ σ) : xGo l own cc nL ret ini d mc ms Q n cu su pc lv (xJ a :: st) ρ σ := by
  intro p e s m args below meth c B D cy zz H locs ls hC hR hS hl
  subst h
  exact lv_lstore_n hC.1 hC.2.1 hd rfl hl hn (x_lsJ_lv B lv k (xJ a)) (fun ls' hl' => kk p e s m args below meth c B D cy zz H locs ls' hC hR hS hl')
theorem g_lstore {k : Nat} {a : Int} (hd : decode cc pc = .ok (.lstore k, 2)) (hn : k + 1 < nL) (h : x_lsJ lv k (xJ a) = lv') (kk : xGo l own cc nL ret ini d mc ms Q n cu su (pc + 2) lv' st ρ σ) : xGo l own cc nL ret ini d mc ms Q n cu su pc lv (xJ a :: st) ρ σ := by
  intro p e s m args below meth c B D cy zz H locs ls hC hR hS hl
  subst h
  exact lv_lstore hC.1 hC.2.1 hd hl hn (x_lsJ_lv B lv k (xJ a)) (fun ls' hl' => kk p e s m args below meth c B D cy zz H locs ls' hC hR hS hl')
theorem g_iinc {k : Nat} {z a : Int} (hd : decode cc pc = .ok (.iinc k z, 3)) (hn : k < nL) (h0 : x_lg lv k = some (xI a)) (h : x_ls lv k (xI (a + z)) = lv') (kk : xGo l own cc nL ret ini d mc ms Q n cu su (pc + 3) lv' st ρ σ) : xGo l own cc nL ret ini d mc ms Q n cu su pc lv st ρ σ := by
  intro p e s m args below meth c B D cy zz H locs ls hC hR hS hl
  subst h
  unfold x_lg at h0
  obtain ⟨q, hq, e1⟩ := Option.map_eq_some_iff.mp h0
  have h1 : q.1 = k := by simpa using List.find?_some hq
  have h2 : (q.1, x_tv B q.2) ∈ x_lv B lv := List.mem_map.mpr ⟨q, List.mem_of_find?_eq_some hq, rfl⟩
  rw [h1, e1] at h2
  obtain ⟨j, hj⟩ := List.getElem?_of_mem h2
  exact lv_iinc (v := Int32.ofInt (a + z)) hC.1 hC.2.1 hd hl (k := j) hj (by rw [Int32.ofInt_add]) hn (x_ls_lv B lv k (xI (a + z))) (fun ls' hl' => kk p e s m args below meth c B D cy zz H locs ls' hC hR hS hl')
theorem x_to {a b : Int32} (h : a = b) {p : Program} {e : Env} {R : Room} {s : State} {m : MethodId} {args : Array Value} {below : List Frame} {meth : Method} {c : Code} {H : Heap} {locs : List Loc} {cells slots : Nat} {QQ : State → Prop} {pc : Nat} {ls : Array Slot} {rest : List Value}
    (k : W p l e R s m args below meth c H locs cells slots QQ (F0 m pc ls (.int b :: rest))) : W p l e R s m args below meth c H locs cells slots QQ (F0 m pc ls (.int a :: rest)) := by rw [h]; exact k
theorem x_toJ {a b : Int64} (h : a = b) {p : Program} {e : Env} {R : Room} {s : State} {m : MethodId} {args : Array Value} {below : List Frame} {meth : Method} {c : Code} {H : Heap} {locs : List Loc} {cells slots : Nat} {QQ : State → Prop} {pc : Nat} {ls : Array Slot} {rest : List Value}
    (k : W p l e R s m args below meth c H locs cells slots QQ (F0 m pc ls (.long b :: rest))) : W p l e R s m args below meth c H locs cells slots QQ (F0 m pc ls (.long a :: rest)) := by rw [h]; exact k
theorem g_iadd {a b : Int} (hd : decode cc pc = .ok (.iadd, 1)) (kk : xGo l own cc nL ret ini d mc ms Q n cu su (pc + 1) lv (xI (a + b) :: st) ρ σ) : xGo l own cc nL ret ini d mc ms Q n cu su pc lv (xI b :: xI a :: st) ρ σ := by
  intro p e s m args below meth c B D cy zz H locs ls hC hR hS hl
  exact lv_iadd hC.1 hC.2.1 hd (x_to (Int32.ofInt_add a b).symm (kk p e s m args below meth c B D cy zz H locs ls hC hR hS hl))
theorem g_isub {a b : Int} (hd : decode cc pc = .ok (.isub, 1)) (kk : xGo l own cc nL ret ini d mc ms Q n cu su (pc + 1) lv (xI (a - b) :: st) ρ σ) : xGo l own cc nL ret ini d mc ms Q n cu su pc lv (xI b :: xI a :: st) ρ σ := by
  intro p e s m args below meth c B D cy zz H locs ls hC hR hS hl
  exact lv_isub hC.1 hC.2.1 hd (x_to (Int32.ofInt_sub a b).symm (kk p e s m args below meth c B D cy zz H locs ls hC hR hS hl))
theorem g_imul {a b : Int} (hd : decode cc pc = .ok (.imul, 1)) (kk : xGo l own cc nL ret ini d mc ms Q n cu su (pc + 1) lv (xI (a * b) :: st) ρ σ) : xGo l own cc nL ret ini d mc ms Q n cu su pc lv (xI b :: xI a :: st) ρ σ := by
  intro p e s m args below meth c B D cy zz H locs ls hC hR hS hl
  exact lv_imul hC.1 hC.2.1 hd (x_to (Int32.ofInt_mul a b).symm (kk p e s m args below meth c B D cy zz H locs ls hC hR hS hl))
/-! operations of bits, as numbers -/
def x_and (a b : Int) : Int := (Int32.ofInt a &&& Int32.ofInt b).toInt
def x_or (a b : Int) : Int := (Int32.ofInt a ||| Int32.ofInt b).toInt
def x_xor (a b : Int) : Int := (Int32.ofInt a ^^^ Int32.ofInt b).toInt
def x_shl (a b : Int) : Int := (Int32.ofInt a <<< (Int32.ofInt b &&& 31)).toInt
def x_shr (a b : Int) : Int := (Int32.ofInt a >>> (Int32.ofInt b &&& 31)).toInt
def x_ush (a b : Int) : Int := ((Int32.ofInt a).toUInt32 >>> ((Int32.ofInt b).toUInt32 &&& Int32.toUInt32 31)).toInt32.toInt
def x_div (a b : Int) : Int := (Int32.ofInt a / Int32.ofInt b).toInt
def x_rem (a b : Int) : Int := (Int32.ofInt a - Int32.ofInt a / Int32.ofInt b * Int32.ofInt b).toInt
def x_chr (a : Int) : Int := ((Int32.ofInt a).toUInt32 % 65536).toInt32.toInt
theorem g_iand {a b : Int} (hd : decode cc pc = .ok (.iand, 1)) (kk : xGo l own cc nL ret ini d mc ms Q n cu su (pc + 1) lv (xI (x_and a b) :: st) ρ σ) : xGo l own cc nL ret ini d mc ms Q n cu su pc lv (xI b :: xI a :: st) ρ σ := by
  intro p e s m args below meth c B D cy zz H locs ls hC hR hS hl
  exact lv_iand hC.1 hC.2.1 hd (x_to (Int32.ofInt_toInt _).symm (kk p e s m args below meth c B D cy zz H locs ls hC hR hS hl))
theorem g_ior {a b : Int} (hd : decode cc pc = .ok (.ior, 1)) (kk : xGo l own cc nL ret ini d mc ms Q n cu su (pc + 1) lv (xI (x_or a b) :: st) ρ σ) : xGo l own cc nL ret ini d mc ms Q n cu su pc lv (xI b :: xI a :: st) ρ σ := by
  intro p e s m args below meth c B D cy zz H locs ls hC hR hS hl
  exact lv_ior hC.1 hC.2.1 hd (x_to (Int32.ofInt_toInt _).symm (kk p e s m args below meth c B D cy zz H locs ls hC hR hS hl))
theorem g_ixor {a b : Int} (hd : decode cc pc = .ok (.ixor, 1)) (kk : xGo l own cc nL ret ini d mc ms Q n cu su (pc + 1) lv (xI (x_xor a b) :: st) ρ σ) : xGo l own cc nL ret ini d mc ms Q n cu su pc lv (xI b :: xI a :: st) ρ σ := by
  intro p e s m args below meth c B D cy zz H locs ls hC hR hS hl
  exact lv_ixor hC.1 hC.2.1 hd (x_to (Int32.ofInt_toInt _).symm (kk p e s m args below meth c B D cy zz H locs ls hC hR hS hl))
theorem g_ishl {a b : Int} (hd : decode cc pc = .ok (.ishl, 1)) (kk : xGo l own cc nL ret ini d mc ms Q n cu su (pc + 1) lv (xI (x_shl a b) :: st) ρ σ) : xGo l own cc nL ret ini d mc ms Q n cu su pc lv (xI b :: xI a :: st) ρ σ := by
  intro p e s m args below meth c B D cy zz H locs ls hC hR hS hl
  exact lv_ishl hC.1 hC.2.1 hd (x_to (Int32.ofInt_toInt _).symm (kk p e s m args below meth c B D cy zz H locs ls hC hR hS hl))
theorem g_ishr {a b : Int} (hd : decode cc pc = .ok (.ishr, 1)) (kk : xGo l own cc nL ret ini d mc ms Q n cu su (pc + 1) lv (xI (x_shr a b) :: st) ρ σ) : xGo l own cc nL ret ini d mc ms Q n cu su pc lv (xI b :: xI a :: st) ρ σ := by
  intro p e s m args below meth c B D cy zz H locs ls hC hR hS hl
  exact lv_ishr hC.1 hC.2.1 hd (x_to (Int32.ofInt_toInt _).symm (kk p e s m args below meth c B D cy zz H locs ls hC hR hS hl))
theorem g_iushr {a b : Int} (hd : decode cc pc = .ok (.iushr, 1)) (kk : xGo l own cc nL ret ini d mc ms Q n cu su (pc + 1) lv (xI (x_ush a b) :: st) ρ σ) : xGo l own cc nL ret ini d mc ms Q n cu su pc lv (xI b :: xI a :: st) ρ σ := by
  intro p e s m args below meth c B D cy zz H locs ls hC hR hS hl
  exact lv_iushr hC.1 hC.2.1 hd (Int32.ofInt_toInt _).symm (kk p e s m args below meth c B D cy zz H locs ls hC hR hS hl)
theorem g_idiv {a b : Int} (hd : decode cc pc = .ok (.idiv, 1)) (hb : ¬ x_wr b = 0) (kk : xGo l own cc nL ret ini d mc ms Q n cu su (pc + 1) lv (xI (x_div a b) :: st) ρ σ) : xGo l own cc nL ret ini d mc ms Q n cu su pc lv (xI b :: xI a :: st) ρ σ := by
  intro p e s m args below meth c B D cy zz H locs ls hC hR hS hl
  exact lv_idiv hC.1 hC.2.1 hd (fun z => hb ((x_eq0 b).mp z)) (x_to (Int32.ofInt_toInt _).symm (kk p e s m args below meth c B D cy zz H locs ls hC hR hS hl))
theorem g_irem {a b : Int} (hd : decode cc pc = .ok (.irem, 1)) (hb : ¬ x_wr b = 0) (kk : xGo l own cc nL ret ini d mc ms Q n cu su (pc + 1) lv (xI (x_rem a b) :: st) ρ σ) : xGo l own cc nL ret ini d mc ms Q n cu su pc lv (xI b :: xI a :: st) ρ σ := by
  intro p e s m args below meth c B D cy zz H locs ls hC hR hS hl
  exact lv_irem hC.1 hC.2.1 hd (fun z => hb ((x_eq0 b).mp z)) (x_to (Int32.ofInt_toInt _).symm (kk p e s m args below meth c B D cy zz H locs ls hC hR hS hl))
theorem g_i2c {a : Int} (hd : decode cc pc = .ok (.i2c, 1)) (kk : xGo l own cc nL ret ini d mc ms Q n cu su (pc + 1) lv (xI (x_chr a) :: st) ρ σ) : xGo l own cc nL ret ini d mc ms Q n cu su pc lv (xI a :: st) ρ σ := by
  intro p e s m args below meth c B D cy zz H locs ls hC hR hS hl
  exact lv_i2c hC.1 hC.2.1 hd (Int32.ofInt_toInt _).symm (kk p e s m args below meth c B D cy zz H locs ls hC hR hS hl)
/-! longs -/
def x_wrJ (a : Int) : Int := (Int64.ofInt a).toInt
def x_divJ (a b : Int) : Int := (Int64.ofInt a / Int64.ofInt b).toInt
def x_remJ (a b : Int) : Int := (Int64.ofInt a - Int64.ofInt a / Int64.ofInt b * Int64.ofInt b).toInt
def x_cmpJ (a b : Int) : Int := (lg_cmp (Int64.ofInt a) (Int64.ofInt b)).toInt
theorem x_eqJ0 (a : Int) : Int64.ofInt a = 0 ↔ x_wrJ a = 0 := by
  rw [← Int64.toInt_inj]; exact Iff.rfl
theorem x_i2l (a : Int) : (Int32.ofInt a).toInt64 = Int64.ofInt (x_wr a) := by
  apply Int64.toInt_inj.mp
  rw [Int32.toInt_toInt64, Int64.toInt_ofInt_of_le]
  · rfl
  · have := (Int32.ofInt a).le_toInt; unfold x_wr; omega
  · have := (Int32.ofInt a).toInt_lt; unfold x_wr; omega
theorem g_i2l {a : Int} (hd : decode cc pc = .ok (.i2l, 1)) (kk : xGo l own cc nL ret ini d mc ms Q n cu su (pc + 1) lv (xJ (x_wr a) :: st) ρ σ) : xGo l own cc nL ret ini d mc ms Q n cu su pc lv (xI a :: st) ρ σ := by
  intro p e s m args below meth c B D cy zz H locs ls hC hR hS hl
  exact lv_i2l hC.1 hC.2.1 hd (x_i2l a) (kk p e s m args below meth c B D cy zz H locs ls hC hR hS hl)
theorem g_l2i {a : Int} (hd : decode cc pc = .ok (.l2i, 1)) (kk : xGo l own cc nL ret ini d mc ms Q n cu su (pc + 1) lv (xI a :: st) ρ σ) : xGo l own cc nL ret ini d mc ms Q n cu su pc lv (xJ a :: st) ρ σ := by
  intro p e s m args below meth c B D cy zz H locs ls hC hR hS hl
  exact lv_l2i hC.1 hC.2.1 hd Int64.toInt32_ofInt (kk p e s m args below meth c B D cy zz H locs ls hC hR hS hl)
theorem g_ladd {a b : Int} (hd : decode cc pc = .ok (.ladd, 1)) (kk : xGo l own cc nL ret ini d mc ms Q n cu su (pc + 1) lv (xJ (a + b) :: st) ρ σ) : xGo l own cc nL ret ini d mc ms Q n cu su pc lv (xJ b :: xJ a :: st) ρ σ := by
  intro p e s m args below meth c B D cy zz H locs ls hC hR hS hl
  exact lv_ladd hC.1 hC.2.1 hd (x_toJ (Int64.ofInt_add a b).symm (kk p e s m args below meth c B D cy zz H locs ls hC hR hS hl))
theorem g_lmul {a b : Int} (hd : decode cc pc = .ok (.lmul, 1)) (kk : xGo l own cc nL ret ini d mc ms Q n cu su (pc + 1) lv (xJ (a * b) :: st) ρ σ) : xGo l own cc nL ret ini d mc ms Q n cu su pc lv (xJ b :: xJ a :: st) ρ σ := by
  intro p e s m args below meth c B D cy zz H locs ls hC hR hS hl
  exact lv_lmul hC.1 hC.2.1 hd (x_toJ (Int64.ofInt_mul a b).symm (kk p e s m args below meth c B D cy zz H locs ls hC hR hS hl))
theorem g_ldiv {a b : Int} (hd : decode cc pc = .ok (.ldiv, 1)) (hb : ¬ x_wrJ b = 0) (kk : xGo l own cc nL ret ini d mc ms Q n cu su (pc + 1) lv (xJ (x_divJ a b) :: st) ρ σ) : xGo l own cc nL ret ini d mc ms Q n cu su pc lv (xJ b :: xJ a :: st) ρ σ := by
  intro p e s m args below meth c B D cy zz H locs ls hC hR hS hl
  exact lv_ldiv hC.1 hC.2.1 hd (fun z => hb ((x_eqJ0 b).mp z)) (x_toJ (Int64.ofInt_toInt _).symm (kk p e s m args below meth c B D cy zz H locs ls hC hR hS hl))
theorem g_lrem {a b : Int} (hd : decode cc pc = .ok (.lrem, 1)) (hb : ¬ x_wrJ b = 0) (kk : xGo l own cc nL ret ini d mc ms Q n cu su (pc + 1) lv (xJ (x_remJ a b) :: st) ρ σ) : xGo l own cc nL ret ini d mc ms Q n cu su pc lv (xJ b :: xJ a :: st) ρ σ := by
  intro p e s m args below meth c B D cy zz H locs ls hC hR hS hl
  exact lv_lrem hC.1 hC.2.1 hd (fun z => hb ((x_eqJ0 b).mp z)) (x_toJ (Int64.ofInt_toInt _).symm (kk p e s m args below meth c B D cy zz H locs ls hC hR hS hl))
theorem g_lcmp {a b : Int} (hd : decode cc pc = .ok (.lcmp, 1)) (kk : xGo l own cc nL ret ini d mc ms Q n cu su (pc + 1) lv (xI (x_cmpJ a b) :: st) ρ σ) : xGo l own cc nL ret ini d mc ms Q n cu su pc lv (xJ b :: xJ a :: st) ρ σ := by
  intro p e s m args below meth c B D cy zz H locs ls hC hR hS hl
  exact W.lcmp hC.1 hC.2.1 hd (x_to (Int32.ofInt_toInt _).symm (kk p e s m args below meth c B D cy zz H locs ls hC hR hS hl))
/-! the stack -/
theorem g_dup {v : xV} (hd : decode cc pc = .ok (.dup, 1)) (hv : x_cat v = 1) (kk : xGo l own cc nL ret ini d mc ms Q n cu su (pc + 1) lv (v :: v :: st) ρ σ) : xGo l own cc nL ret ini d mc ms Q n cu su pc lv (v :: st) ρ σ := by
  intro p e s m args below meth c B D cy zz H locs ls hC hR hS hl
  exact lv_dup hC.1 hC.2.1 hd (by rw [x_cat_tv]; exact hv) (kk p e s m args below meth c B D cy zz H locs ls hC hR hS hl)
theorem g_pop {v : xV} (hd : decode cc pc = .ok (.pop, 1)) (hv : x_cat v = 1) (kk : xGo l own cc nL ret ini d mc ms Q n cu su (pc + 1) lv st ρ σ) : xGo l own cc nL ret ini d mc ms Q n cu su pc lv (v :: st) ρ σ := by
  intro p e s m args below meth c B D cy zz H locs ls hC hR hS hl
  exact lv_pop hC.1 hC.2.1 hd (by rw [x_cat_tv]; exact hv) (kk p e s m args below meth c B D cy zz H locs ls hC hR hS hl)
theorem g_dup2 {v w : xV} (hd : decode cc pc = .ok (.dup2, 1)) (hv : x_cat v = 1) (hw : x_cat w = 1) (kk : xGo l own cc nL ret ini d mc ms Q n cu su (pc + 1) lv (v :: w :: v :: w :: st) ρ σ) : xGo l own cc nL ret ini d mc ms Q n cu su pc lv (v :: w :: st) ρ σ := by
  intro p e s m args below meth c B D cy zz H locs ls hC hR hS hl
  exact lv_dup2_11 hC.1 hC.2.1 hd (by rw [x_cat_tv]; exact hv) (by rw [x_cat_tv]; exact hw) (kk p e s m args below meth c B D cy zz H locs ls hC hR hS hl)
/-! branches -/
theorem g_goto {off : Int} (tgt : Nat) (hd : decode cc pc = .ok (.goto off, 3)) (ht : (pc : Int) + off = (tgt : Int)) (kk : xGo l own cc nL ret ini d mc ms Q n cu su tgt lv st ρ σ) : xGo l own cc nL ret ini d mc ms Q n cu su pc lv st ρ σ := by
  intro p e s m args below meth c B D cy zz H locs ls hC hR hS hl
  exact lv_goto hC.1 hC.2.1 hd ht (kk p e s m args below meth c B D cy zz H locs ls hC hR hS hl)
theorem g_cmp_eq {off a b : Int} (tgt : Nat) (hd : decode cc pc = .ok (.if_icmp .eq off, 3)) (ht : (pc : Int) + off = (tgt : Int)) (kt : x_wr a = x_wr b → xGo l own cc nL ret ini d mc ms Q n cu su tgt lv st ρ σ) (kf : ¬ x_wr a = x_wr b → xGo l own cc nL ret ini d mc ms Q n cu su (pc + 3) lv st ρ σ) : xGo l own cc nL ret ini d mc ms Q n cu su pc lv (xI b :: xI a :: st) ρ σ := by
  intro p e s m args below meth c B D cy zz H locs ls hC hR hS hl
  exact lv_icmp_eq hC.1 hC.2.1 hd ht (fun z => kt ((x_eq a b).mp z) p e s m args below meth c B D cy zz H locs ls hC hR hS hl) (fun z => kf (fun y => z ((x_eq a b).mpr y)) p e s m args below meth c B D cy zz H locs ls hC hR hS hl)
theorem g_if_eq {off a : Int} (tgt : Nat) (hd : decode cc pc = .ok (.ifCond .eq off, 3)) (ht : (pc : Int) + off = (tgt : Int)) (kt : x_wr a = 0 → xGo l own cc nL ret ini d mc ms Q n cu su tgt lv st ρ σ) (kf : ¬ x_wr a = 0 → xGo l own cc nL ret ini d mc ms Q n cu su (pc + 3) lv st ρ σ) : xGo l own cc nL ret ini d mc ms Q n cu su pc lv (xI a :: st) ρ σ := by
  intro p e s m args below meth c B D cy zz H locs ls hC hR hS hl
  exact lv_if_eq hC.1 hC.2.1 hd ht (fun z => kt ((x_eq0 a).mp z) p e s m args below meth c B D cy zz H locs ls hC hR hS hl) (fun z => kf (fun y => z ((x_eq0 a).mpr y)) p e s m args below meth c B D cy zz H locs ls hC hR hS hl)
theorem g_cmp_lt {off a b : Int} (tgt : Nat) (hd : decode cc pc = .ok (.if_icmp .lt off, 3)) (ht : (pc : Int) + off = (tgt : Int)) (kt : x_wr a < x_wr b → xGo l own cc nL ret ini d mc ms Q n cu su tgt lv st ρ σ) (kf : ¬ x_wr a < x_wr b → xGo l own cc nL ret ini d mc ms Q n cu su (pc + 3) lv st ρ σ) : xGo l own cc nL ret ini d mc ms Q n cu su pc lv (xI b :: xI a :: st) ρ σ := by
  intro p e s m args below meth c B D cy zz H locs ls hC hR hS hl
  exact lv_icmp_lt hC.1 hC.2.1 hd ht (fun z => kt ((x_lt a b).mp z) p e s m args below meth c B D cy zz H locs ls hC hR hS hl) (fun z => kf (fun y => z ((x_lt a b).mpr y)) p e s m args below meth c B D cy zz H locs ls hC hR hS hl)
theorem g_if_lt {off a : Int} (tgt : Nat) (hd : decode cc pc = .ok (.ifCond .lt off, 3)) (ht : (pc : Int) + off = (tgt : Int)) (kt : x_wr a < 0 → xGo l own cc nL ret ini d mc ms Q n cu su tgt lv st ρ σ) (kf : ¬ x_wr a < 0 → xGo l own cc nL ret ini d mc ms Q n cu su (pc + 3) lv st ρ σ) : xGo l own cc nL ret ini d mc ms Q n cu su pc lv (xI a :: st) ρ σ := by
  intro p e s m args below meth c B D cy zz H locs ls hC hR hS hl
  exact lv_if_lt hC.1 hC.2.1 hd ht (fun z => kt ((x_lt0 a).mp z) p e s m args below meth c B D cy zz H locs ls hC hR hS hl) (fun z => kf (fun y => z ((x_lt0 a).mpr y)) p e s m args below meth c B D cy zz H locs ls hC hR hS hl)
theorem g_cmp_ge {off a b : Int} (tgt : Nat) (hd : decode cc pc = .ok (.if_icmp .ge off, 3)) (ht : (pc : Int) + off = (tgt : Int)) (kt : x_wr b ≤ x_wr a → xGo l own cc nL ret ini d mc ms Q n cu su tgt lv st ρ σ) (kf : ¬ x_wr b ≤ x_wr a → xGo l own cc nL ret ini d mc ms Q n cu su (pc + 3) lv st ρ σ) : xGo l own cc nL ret ini d mc ms Q n cu su pc lv (xI b :: xI a :: st) ρ σ := by
  intro p e s m args below meth c B D cy zz H locs ls hC hR hS hl
  exact lv_icmp_ge hC.1 hC.2.1 hd ht (fun z => kt ((x_le b a).mp z) p e s m args below meth c B D cy zz H locs ls hC hR hS hl) (fun z => kf (fun y => z ((x_le b a).mpr y)) p e s m args below meth c B D cy zz H locs ls hC hR hS hl)
theorem g_if_ge {off a : Int} (tgt : Nat) (hd : decode cc pc = .ok (.ifCond .ge off, 3)) (ht : (pc : Int) + off = (tgt : Int)) (kt : 0 ≤ x_wr a → xGo l own cc nL ret ini d mc ms Q n cu su tgt lv st ρ σ) (kf : ¬ 0 ≤ x_wr a → xGo l own cc nL ret ini d mc ms Q n cu su (pc + 3) lv st ρ σ) : xGo l own cc nL ret ini d mc ms Q n cu su pc lv (xI a :: st) ρ σ := by
  intro p e s m args below meth c B D cy zz H locs ls hC hR hS hl
  exact lv_if_ge hC.1 hC.2.1 hd ht (fun z => kt ((x_0le a).mp z) p e s m args below meth c B D cy zz H locs ls hC hR hS hl) (fun z => kf (fun y => z ((x_0le a).mpr y)) p e s m args below meth c B D cy zz H locs ls hC hR hS hl)
theorem g_cmp_gt {off a b : Int} (tgt : Nat) (hd : decode cc pc = .ok (.if_icmp .gt off, 3)) (ht : (pc : Int) + off = (tgt : Int)) (kt : x_wr b < x_wr a → xGo l own cc nL ret ini d mc ms Q n cu su tgt lv st ρ σ) (kf : ¬ x_wr b < x_wr a → xGo l own cc nL ret ini d mc ms Q n cu su (pc + 3) lv st ρ σ) : xGo l own cc nL ret ini d mc ms Q n cu su pc lv (xI b :: xI a :: st) ρ σ := by
  intro p e s m args below meth c B D cy zz H locs ls hC hR hS hl
  exact lv_icmp_gt hC.1 hC.2.1 hd ht (fun z => kt ((x_lt b a).mp z) p e s m args below meth c B D cy zz H locs ls hC hR hS hl) (fun z => kf (fun y => z ((x_lt b a).mpr y)) p e s m args below meth c B D cy zz H locs ls hC hR hS hl)
theorem g_if_gt {off a : Int} (tgt : Nat) (hd : decode cc pc = .ok (.ifCond .gt off, 3)) (ht : (pc : Int) + off = (tgt : Int)) (kt : 0 < x_wr a → xGo l own cc nL ret ini d mc ms Q n cu su tgt lv st ρ σ) (kf : ¬ 0 < x_wr a → xGo l own cc nL ret ini d mc ms Q n cu su (pc + 3) lv st ρ σ) : xGo l own cc nL ret ini d mc ms Q n cu su pc lv (xI a :: st) ρ σ := by
  intro p e s m args below meth c B D cy zz H locs ls hC hR hS hl
  exact lv_if_gt hC.1 hC.2.1 hd ht (fun z => kt ((x_0lt a).mp z) p e s m args below meth c B D cy zz H locs ls hC hR hS hl) (fun z => kf (fun y => z ((x_0lt a).mpr y)) p e s m args below meth c B D cy zz H locs ls hC hR hS hl)
theorem g_cmp_le {off a b : Int} (tgt : Nat) (hd : decode cc pc = .ok (.if_icmp .le off, 3)) (ht : (pc : Int) + off = (tgt : Int)) (kt : x_wr a ≤ x_wr b → xGo l own cc nL ret ini d mc ms Q n cu su tgt lv st ρ σ) (kf : ¬ x_wr a ≤ x_wr b → xGo l own cc nL ret ini d mc ms Q n cu su (pc + 3) lv st ρ σ) : xGo l own cc nL ret ini d mc ms Q n cu su pc lv (xI b :: xI a :: st) ρ σ := by
  intro p e s m args below meth c B D cy zz H locs ls hC hR hS hl
  exact lv_icmp_le hC.1 hC.2.1 hd ht (fun z => kt ((x_le a b).mp z) p e s m args below meth c B D cy zz H locs ls hC hR hS hl) (fun z => kf (fun y => z ((x_le a b).mpr y)) p e s m args below meth c B D cy zz H locs ls hC hR hS hl)
theorem g_if_le {off a : Int} (tgt : Nat) (hd : decode cc pc = .ok (.ifCond .le off, 3)) (ht : (pc : Int) + off = (tgt : Int)) (kt : x_wr a ≤ 0 → xGo l own cc nL ret ini d mc ms Q n cu su tgt lv st ρ σ) (kf : ¬ x_wr a ≤ 0 → xGo l own cc nL ret ini d mc ms Q n cu su (pc + 3) lv st ρ σ) : xGo l own cc nL ret ini d mc ms Q n cu su pc lv (xI a :: st) ρ σ := by
  intro p e s m args below meth c B D cy zz H locs ls hC hR hS hl
  exact lv_if_le hC.1 hC.2.1 hd ht (fun z => kt ((x_le0 a).mp z) p e s m args below meth c B D cy zz H locs ls hC hR hS hl) (fun z => kf (fun y => z ((x_le0 a).mpr y)) p e s m args below meth c B D cy zz H locs ls hC hR hS hl)
theorem g_cmp_ne {off a b : Int} (tgt : Nat) (hd : decode cc pc = .ok (.if_icmp .ne off, 3)) (ht : (pc : Int) + off = (tgt : Int)) (kt : ¬ x_wr a = x_wr b → xGo l own cc nL ret ini d mc ms Q n cu su tgt lv st ρ σ) (kf : x_wr a = x_wr b → xGo l own cc nL ret ini d mc ms Q n cu su (pc + 3) lv st ρ σ) : xGo l own cc nL ret ini d mc ms Q n cu su pc lv (xI b :: xI a :: st) ρ σ := by
  intro p e s m args below meth c B D cy zz H locs ls hC hR hS hl
  exact lv_icmp_ne hC.1 hC.2.1 hd ht (fun z => kt (fun y => z ((x_eq a b).mpr y)) p e s m args below meth c B D cy zz H locs ls hC hR hS hl) (fun z => kf ((x_eq a b).mp z) p e s m args below meth c B D cy zz H locs ls hC hR hS hl)
theorem g_if_ne {off a : Int} (tgt : Nat) (hd : decode cc pc = .ok (.ifCond .ne off, 3)) (ht : (pc : Int) + off = (tgt : Int)) (kt : ¬ x_wr a = 0 → xGo l own cc nL ret ini d mc ms Q n cu su tgt lv st ρ σ) (kf : x_wr a = 0 → xGo l own cc nL ret ini d mc ms Q n cu su (pc + 3) lv st ρ σ) : xGo l own cc nL ret ini d mc ms Q n cu su pc lv (xI a :: st) ρ σ := by
  intro p e s m args below meth c B D cy zz H locs ls hC hR hS hl
  exact lv_if_ne hC.1 hC.2.1 hd ht (fun z => kt (fun y => z ((x_eq0 a).mpr y)) p e s m args below meth c B D cy zz H locs ls hC hR hS hl) (fun z => kf ((x_eq0 a).mp z) p e s m args below meth c B D cy zz H locs ls hC hR hS hl)
end
