/-! values, memory: (tag, number) names an object or an array; its address is B + x_od tag number -/
abbrev xV : Type := (Nat × Nat) ⊕ (Int ⊕ (Int ⊕ Nat))
abbrev xR (t i : Nat) : xV := Sum.inl (t, i)
abbrev xI (a : Int) : xV := Sum.inr (Sum.inl a)
abbrev xJ (a : Int) : xV := Sum.inr (Sum.inr (Sum.inl a))
abbrev xA (a : Nat) : xV := Sum.inr (Sum.inr (Sum.inr a))
abbrev xMr : Type := Nat → Nat → Nat → Option (Nat × Nat)
abbrev xMi : Type := Nat → Nat → Nat → Int
def x_up (σ : xMi) (t i k : Nat) (v : Int) : xMi := fun t' i' k' => if t' = t ∧ i' = i ∧ k' = k then v else σ t' i' k'
def x_ur (ρ : xMr) (t i k : Nat) (v : Option (Nat × Nat)) : xMr := fun t' i' k' => if t' = t ∧ i' = i ∧ k' = k then v else ρ t' i' k'
def x_zr (σ : xMi) (t i : Nat) : xMi := fun t' i' k' => if t' = t ∧ i' = i then 0 else σ t' i' k'
def x_zn (ρ : xMr) (t i : Nat) : xMr := fun t' i' k' => if t' = t ∧ i' = i then none else ρ t' i' k'
def x_cp (σ : xMi) (t i t0 i0 n : Nat) : xMi := fun t' i' k' => if t' = t ∧ i' = i ∧ k' < n then σ t0 i0 k' else σ t' i' k'
def x_wr (a : Int) : Int := (Int32.ofInt a).toInt
def x_bn (a : Int) : Int := if a = 0 then 0 else 1
theorem x_wr_of {a : Int} (h1 : -2147483648 ≤ a) (h2 : a < 2147483648) : x_wr a = a := Int32.toInt_ofInt_of_le h1 h2
theorem x_eq (a b : Int) : Int32.ofInt a = Int32.ofInt b ↔ x_wr a = x_wr b := Int32.toInt_inj.symm
theorem x_lt (a b : Int) : Int32.ofInt a < Int32.ofInt b ↔ x_wr a < x_wr b := Int32.lt_iff_toInt_lt
theorem x_le (a b : Int) : Int32.ofInt a ≤ Int32.ofInt b ↔ x_wr a ≤ x_wr b := Int32.le_iff_toInt_le
theorem x_eq0 (a : Int) : Int32.ofInt a = 0 ↔ x_wr a = 0 := by
  rw [← Int32.toInt_inj]; exact Iff.rfl
theorem x_lt0 (a : Int) : Int32.ofInt a < 0 ↔ x_wr a < 0 := Int32.lt_iff_toInt_lt
theorem x_0lt (a : Int) : 0 < Int32.ofInt a ↔ 0 < x_wr a := Int32.lt_iff_toInt_lt
theorem x_le0 (a : Int) : Int32.ofInt a ≤ 0 ↔ x_wr a ≤ 0 := Int32.le_iff_toInt_le
theorem x_0le (a : Int) : 0 ≤ Int32.ofInt a ↔ 0 ≤ x_wr a := Int32.le_iff_toInt_le
theorem x_nat {k : Nat} (h : k < 2147483648) : x_wr (k : Int) = k := x_wr_of (by omega) (by omega)
theorem x_ofk (k : Nat) : Int32.ofInt (k : Int) = nI k := rfl
theorem x_clamp {k : Nat} (h : k < 2147483648) : (Int32.ofInt (k : Int)).toNatClampNeg = k := by rw [x_ofk]; exact nI_clamp h
theorem x_vin {k N : Nat} (h : k < N) (hN : N < 2147483648) : vp_in (Int32.ofInt (k : Int)) N := by rw [x_ofk]; exact vp_in_nI h hN
/-! the shapes -/
def x_sh : Nat → Nat ⊕ Nat
  | 0 => .inr 0
  | 5 => .inr 3
  | 10 => .inr 5
  | 11 => .inl 1
  | 13 => .inr 2
  | 14 => .inl 3
  | 15 => .inr 4
  | 18 => .inl 2
  | 19 => .inr 1
  | 20 => .inl 3
  | 23 => .inr 6
  | 24 => .inr 7
  | _ => .inl 0
def x_ln (t i : Nat) : Nat := if t = 11 then 200 else if t = 12 then 4 else if t = 14 then (if i = 0 then 8 else 2) else if t = 20 then 7 else if t = 40 then 200 else if t = 41 then 24 else if t = 42 then 416 else if t = 43 then 52 else if t = 46 then 104 else 6
def x_nf : Nat → Nat
  | 0 => 12
  | 1 => 5
  | 2 => 3
  | 3 => 6
  | 4 => 4
  | 5 => 3
  | 6 => 11
  | 7 => 36
  | _ => 0
/-- of a field: 0 an int, 1 a reference, 2 a boolean -/
def x_kd (ci k : Nat) : Nat := if ci = 0 then (if k < 5 then 1 else if k = 11 then 2 else 0) else if ci = 1 then (if k < 3 then 1 else 0) else if ci = 2 then (if k = 0 then 1 else 0) else if ci = 3 then (if k < 4 then 1 else 0) else if ci = 4 then (if k < 3 then 1 else 0) else if ci = 5 then (if k < 2 then 1 else 0) else if ci = 6 then 1 else
  if k ∈ [1, 2, 3, 4, 9, 10, 11, 12, 13, 14, 15, 16, 18, 19, 20, 21, 26, 28, 30, 32, 33, 34] then 1 else 0
def x_fb (i : Nat) : Nat := if i < 3 then 19 + 5 * i else if i < 11 then 21 + 5 * i else if i < 13 then 23 + 5 * i else 31 + 5 * i
def x_od (t i : Nat) : Nat := if t ≤ 4 then x_fb i + t else if t ≤ 9 then 4 + 5 * i + (t - 5) else if t ≤ 12 then 1 + (t - 10) else if t = 13 then (if i = 0 then 34 else 76) else if t = 14 then (if i = 0 then 35 else 77) else if t ≤ 18 then 88 + (t - 15) else if t ≤ 22 then 92 + (t - 19) else if t = 23 then 0 else 131 + (t - 24)
def x_cnt (t : Nat) : Nat := if t ≤ 4 then 20 else if t ≤ 9 then 3 else if t ≤ 12 then 1 else if t ≤ 14 then 2 else if t ≤ 46 then 1 else 0
def x_ivl : List (Nat × Nat) := [(23, 0), (10, 0), (11, 0), (12, 0), (5, 0), (6, 0), (7, 0), (8, 0), (9, 0), (5, 1), (6, 1), (7, 1), (8, 1), (9, 1), (5, 2), (6, 2), (7, 2), (8, 2), (9, 2), (0, 0), (1, 0), (2, 0), (3, 0), (4, 0), (0, 1), (1, 1), (2, 1), (3, 1), (4, 1), (0, 2), (1, 2), (2, 2), (3, 2), (4, 2), (13, 0), (14, 0), (0, 3), (1, 3), (2, 3), (3, 3), (4, 3), (0, 4), (1, 4), (2, 4), (3, 4), (4, 4), (0, 5), (1, 5), (2, 5), (3, 5), (4, 5), (0, 6), (1, 6), (2, 6), (3, 6), (4, 6), (0, 7), (1, 7), (2, 7), (3, 7), (4, 7), (0, 8), (1, 8), (2, 8), (3, 8), (4, 8), (0, 9), (1, 9), (2, 9), (3, 9), (4, 9), (0, 10), (1, 10), (2, 10), (3, 10), (4, 10), (13, 1), (14, 1), (0, 11), (1, 11), (2, 11), (3, 11), (4, 11), (0, 12), (1, 12), (2, 12), (3, 12), (4, 12), (15, 0), (16, 0), (17, 0), (18, 0), (19, 0), (20, 0), (21, 0), (22, 0), (0, 13), (1, 13), (2, 13), (3, 13), (4, 13), (0, 14), (1, 14), (2, 14), (3, 14), (4, 14), (0, 15), (1, 15), (2, 15), (3, 15), (4, 15), (0, 16), (1, 16), (2, 16), (3, 16), (4, 16), (0, 17), (1, 17), (2, 17), (3, 17), (4, 17), (0, 18), (1, 18), (2, 18), (3, 18), (4, 18), (0, 19), (1, 19), (2, 19), (3, 19), (4, 19), (24, 0), (25, 0), (26, 0), (27, 0), (28, 0), (29, 0), (30, 0), (31, 0), (32, 0), (33, 0), (34, 0), (35, 0), (36, 0), (37, 0), (38, 0), (39, 0), (40, 0), (41, 0), (42, 0), (43, 0), (44, 0), (45, 0), (46, 0)]
def x_iv (j : Nat) : Nat × Nat := x_ivl.getD j (0, 0)
theorem x_ivod : ∀ t, t < 47 → ∀ i, i < x_cnt t → x_iv (x_od t i) = (t, i) ∧ x_od t i < 154 ∧ (t < 24 → x_od t i < 131) := by decide +kernel
theorem x_odiv : ∀ j, j < 154 → x_od (x_iv j).1 (x_iv j).2 = j := by decide +kernel
def x_vd (n t i : Nat) : Prop := x_iv (x_od t i) = (t, i) ∧ x_od t i < n
theorem x_vC {n t i : Nat} (hn : 131 ≤ n) (ht : t < 24) (hi : i < x_cnt t) : x_vd n t i := ⟨(x_ivod t (by omega) i hi).1, Nat.lt_of_lt_of_le ((x_ivod t (by omega) i hi).2.2 ht) hn⟩
theorem x_vM {n t i : Nat} (hn : 154 ≤ n) (ht : t < 47) (hi : i < x_cnt t) : x_vd n t i := ⟨(x_ivod t ht i hi).1, Nat.lt_of_lt_of_le (x_ivod t ht i hi).2.1 hn⟩
def x_tv (B : Nat) : xV → Value
  | .inl q => .ref (B + x_od q.1 q.2)
  | .inr (.inl a) => .int (Int32.ofInt a)
  | .inr (.inr (.inl a)) => .long (Int64.ofInt a)
  | .inr (.inr (.inr a)) => .ref a
def x_cat : xV → Nat
  | .inr (.inr (.inl _)) => 2
  | _ => 1
theorem x_cat_tv (B : Nat) (v : xV) : (x_tv B v).category = x_cat v := by
  rcases v with q | a | a | a <;> rfl
theorem x_cat_sum (B : Nat) (st : List xV) : ((st.map (x_tv B)).map fun v => v.category).sum = (st.map x_cat).sum := by
  rw [List.map_map]
  congr 1
  exact List.map_congr_left (fun v _ => x_cat_tv B v)
abbrev x_cl : List vw_C := [(RX0, TX0, 12), (RX1, TX1, 5), (RX2, TX2, 3), (RX3, TX3, 6), (RX4, TX4, 4), (RX5, TX5, 3), (RX6, TX6, 11), (RX7, TX7, 36)]
abbrev x_ty (cy : Nat → ClassId) : List (ClassId × FieldType) := [(cy 0, .int), (cy 1, .char), (cy 2, .boolean), (cy 3, .object RX0)]
def x_fv (B : Nat) (ρ : xMr) (σ : xMi) (t i ci k : Nat) : Value := if x_kd ci k = 1 then va_rf ((ρ t i k).map (fun q => B + x_od q.1 q.2)) else if x_kd ci k = 2 then .int (Int32.ofInt (x_bn (σ t i k))) else .int (Int32.ofInt (σ t i k))
def x_ce (B : Nat) (cy : Nat → ClassId) (ρ : xMr) (σ : xMi) (t i : Nat) : va_E := match x_sh t with
  | .inr ci => .inr (ci, (List.range (x_nf ci)).map (x_fv B ρ σ t i ci))
  | .inl 3 => .inl (cy 3, x_ln t i, .inr (.inr (.inr (.inr (fun k => (ρ t i k).map (fun q => B + x_od q.1 q.2))))))
  | .inl ty => .inl (cy ty, x_ln t i, .inl (fun k => Int32.ofInt (σ t i k)))
theorem x_ce_o {B : Nat} {cy : Nat → ClassId} {ρ : xMr} {σ : xMi} {t i ci : Nat} (h : x_sh t = .inr ci) : x_ce B cy ρ σ t i = .inr (ci, (List.range (x_nf ci)).map (x_fv B ρ σ t i ci)) := by
  unfold x_ce; rw [h]
theorem x_ce_3 {B : Nat} {cy : Nat → ClassId} {ρ : xMr} {σ : xMi} {t i : Nat} (h : x_sh t = .inl 3) : x_ce B cy ρ σ t i = .inl (cy 3, x_ln t i, .inr (.inr (.inr (.inr (fun k => (ρ t i k).map (fun q => B + x_od q.1 q.2)))))) := by
  unfold x_ce; rw [h]; rfl
theorem x_ce_a {B : Nat} {cy : Nat → ClassId} {ρ : xMr} {σ : xMi} {t i ty : Nat} (h : x_sh t = .inl ty) (h3 : ty < 3) : x_ce B cy ρ σ t i = .inl (cy ty, x_ln t i, .inl (fun k => Int32.ofInt (σ t i k))) := by
  unfold x_ce; rw [h]
  match ty, h3 with
  | 0, _ => rfl
  | 1, _ => rfl
  | 2, _ => rfl
def x_wl (B : Nat) (cy : Nat → ClassId) (n : Nat) (ρ : xMr) (σ : xMi) : va_W := (List.range n).map (fun j => (B + j, x_ce B cy ρ σ (x_iv j).1 (x_iv j).2))
theorem x_wl_len (B : Nat) (cy : Nat → ClassId) (n : Nat) (ρ : xMr) (σ : xMi) : (x_wl B cy n ρ σ).length = n := by simp [x_wl]
theorem x_wl_get (B : Nat) (cy : Nat → ClassId) {n : Nat} (ρ : xMr) (σ : xMi) {j : Nat} (h : j < n) : (x_wl B cy n ρ σ)[j]? = some (B + j, x_ce B cy ρ σ (x_iv j).1 (x_iv j).2) := by
  simp [x_wl, h]
theorem x_wl_vd (B : Nat) (cy : Nat → ClassId) {n : Nat} (ρ : xMr) (σ : xMi) {t i : Nat} (h : x_vd n t i) : (x_wl B cy n ρ σ)[x_od t i]? = some (B + x_od t i, x_ce B cy ρ σ t i) := by
  rw [x_wl_get B cy ρ σ h.2, h.1]
theorem x_wl_D (B : Nat) (cy : Nat → ClassId) (n : Nat) (ρ : xMr) (σ : xMi) : va_D (fun q => B ≤ q) (x_wl B cy n ρ σ) := by
  refine ⟨fun i j p q hi hj hpq => ?_, fun k q hk => ?_⟩
  · have li : i < n := by have := (List.getElem?_eq_some_iff.mp hi).1; rwa [x_wl_len] at this
    have lj : j < n := by have := (List.getElem?_eq_some_iff.mp hj).1; rwa [x_wl_len] at this
    rw [x_wl_get B cy ρ σ li] at hi
    rw [x_wl_get B cy ρ σ lj] at hj
    cases hi; cases hj
    exact Nat.add_left_cancel hpq
  · have lk : k < n := by have := (List.getElem?_eq_some_iff.mp hk).1; rwa [x_wl_len] at this
    rw [x_wl_get B cy ρ σ lk] at hk
    cases hk
    exact Nat.le_add_right _ _
theorem x_wl_set (B : Nat) (cy : Nat → ClassId) {n : Nat} {ρ ρ' : xMr} {σ σ' : xMi} {t i : Nat} (hn : n ≤ 154) (h : x_vd n t i) {e : va_E} (he : e = x_ce B cy ρ' σ' t i) (ho : ∀ t' i', ¬ (t' = t ∧ i' = i) → x_ce B cy ρ' σ' t' i' = x_ce B cy ρ σ t' i') :
    (x_wl B cy n ρ σ).set (x_od t i) (B + x_od t i, e) = x_wl B cy n ρ' σ' := by
  subst he
  apply List.ext_getElem?
  intro j
  by_cases hj : j < n
  · rw [x_wl_get B cy ρ' σ' hj]
    by_cases hk : j = x_od t i
    · subst hk
      rw [List.getElem?_set_self (by rw [x_wl_len]; exact hj), h.1]
    · rw [List.getElem?_set_ne (fun z => hk z.symm), x_wl_get B cy ρ σ hj, ho]
      intro z
      have h1 := x_odiv j (by omega)
      rw [z.1, z.2] at h1
      exact hk h1.symm
  · rw [List.getElem?_eq_none (by rw [List.length_set, x_wl_len]; omega), List.getElem?_eq_none (by rw [x_wl_len]; omega)]
theorem x_ce_eq {B : Nat} {cy : Nat → ClassId} {ρ ρ' : xMr} {σ σ' : xMi} {t i : Nat} (h1 : ∀ k, ρ' t i k = ρ t i k) (h2 : ∀ k, σ' t i k = σ t i k) : x_ce B cy ρ' σ' t i = x_ce B cy ρ σ t i := by
  have e1 : ρ' t i = ρ t i := funext h1
  have e2 : σ' t i = σ t i := funext h2
  have e3 : ∀ ci, x_fv B ρ' σ' t i ci = x_fv B ρ σ t i ci := fun ci => by funext k; simp only [x_fv, e1, e2]
  unfold x_ce
  simp only [e1, e2, e3]
theorem x_up_o {σ : xMi} {t i k : Nat} {v : Int} {t' i' : Nat} (h : ¬ (t' = t ∧ i' = i)) (k' : Nat) : x_up σ t i k v t' i' k' = σ t' i' k' := if_neg (fun z => h ⟨z.1, z.2.1⟩)
theorem x_ur_o {ρ : xMr} {t i k : Nat} {v : Option (Nat × Nat)} {t' i' : Nat} (h : ¬ (t' = t ∧ i' = i)) (k' : Nat) : x_ur ρ t i k v t' i' k' = ρ t' i' k' := if_neg (fun z => h ⟨z.1, z.2.1⟩)
theorem x_up_s {σ : xMi} {t i k : Nat} {v : Int} (k' : Nat) : x_up σ t i k v t i k' = if k' = k then v else σ t i k' := by
  simp only [x_up, true_and]
theorem x_ur_s {ρ : xMr} {t i k : Nat} {v : Option (Nat × Nat)} (k' : Nat) : x_ur ρ t i k v t i k' = if k' = k then v else ρ t i k' := by
  simp only [x_ur, true_and]
/-- the words: those of the tables that a call keeps -/
def x_T : List Cond := lw_tbl.filter goodWord
theorem x_in {w : Cond} {k : Nat} (h : lw_tbl[k]? = some w) (hg : goodWord w = true) : w ∈ x_T := List.mem_filter.mpr ⟨List.mem_of_getElem? h, hg⟩
def x_R (B : Nat) (D : va_G) (cy : Nat → ClassId) (n : Nat) (ρ : xMr) (σ : xMi) (H : Heap) : Prop := va_P D x_cl (x_wl B cy n ρ σ) H ∧ n ≤ 154
def x_S (B n cu : Nat) (s : State) (H : Heap) (locs : List Loc) : Prop := va_S (fun q => B ≤ q) s.heap H locs ∧ s.heap.size + cu = B + n
/-- the text's two places, the script's place, its length, its ints -/
abbrev xZ : Type := Nat × Nat × Nat × Nat × (Nat → Int32)
abbrev xB : Type := Bool × Option xZ
abbrev xM : Type := String × ByteArray × Nat × Option FieldType × xB
abbrev x_rm (d mc ms : Nat) : Room := { frames := d, cells := mc, slots := ms, locals := 100 * d }
def x_txt : List Int32 := [112, 48, 44, 53, 44, 54, 44, 52, 59, 112, 49, 44, 49, 50, 44, 53, 44, 55, 59, 112, 50, 44, 51, 51, 44, 57, 44, 51, 59, 112, 51, 44, 50, 48, 44, 56, 44, 57, 59, 112, 48, 44, 48, 44, 50, 44, 50, 59, 104, 52, 59]
/-- what stays so of the rest of the machine: three links, the class's one text, a static of String -/
def x_X (B : Nat) (z : xZ) (U : State) : Prop := va_Nw (.methodLinkNest RX6 9 yX5_init "NewsHampers") U ∧ va_Nw (.methodLinkNest RX6 18 yX3_init "NewsHampers") U ∧ va_Nw (.methodLinkNest RX6 58 yX4_init "NewsHampers") U ∧
  vk_R RX6 70 "p0,5,6,4;p1,12,5,7;p2,33,9,3;p3,20,8,9;p0,0,2,2;h4;" z.1 U ∧ vk_S 1 [51] [x_txt] (fun _ => z.1) (fun _ => z.2.1) (fun q => B ≤ q) U U.heap ∧ (va_Z "java/lang/String" "COMPACT_STRINGS" "Z" (.int 1) (fun q => B ≤ q) U U.heap ∧ va_Zq "jdk/internal/util/Preconditions" "SIOOBE_FORMATTER" "Ljava/util/function/BiFunction;" (fun q => B ≤ q) U U.heap ∧ va_T .int z.2.2.1 z.2.2.2.1 (fun j => .int (z.2.2.2.2 j)) (fun q => B ≤ q) U U.heap) ∧ va_AO RX0 U
def x_K (B : Nat) (D : va_G) (cy : Nat → ClassId) (z : xZ) (U : State) : Prop := va_K D x_cl (x_ty cy) U ∧ x_X B z U
theorem x_K.warm {B : Nat} {D : va_G} {cy : Nat → ClassId} {z : xZ} {s U : State} {H : Heap} {locs : List Loc} (hW : s.WarmedH U.vm) (hU : U.heap = H) (hS : va_S (fun q => B ≤ q) s.heap H locs) (h : x_K B D cy z s) : x_K B D cy z U := by
  obtain ⟨h1, h2, h3, h4, h5, h6, h7, h8⟩ := h
  refine ⟨va_K.moved hW.alike h1, va_Nw.warmM hW h2, va_Nw.warmM hW h3, va_Nw.warmM hW h4, vk_R.warm hW h5, ?_, ?_, va_AO.moved hW.alike h8⟩
  · rw [hU]; exact vk_S.moved hW.alike (h6.kept hS.2.1)
  · rw [hU]
    exact ⟨va_Z.moved hW.alike (h7.1.kept hS.2.1), va_Zq.moved hW.alike (h7.2.1.kept hS.2.1), va_T.moved hW.alike (h7.2.2.kept hS.2.1)⟩
theorem x_K.call {B : Nat} {D : va_G} {cy : Nat → ClassId} {z : xZ} {U : State} (g : JFrame) (mk : MethodId) (a : Array Value) (h : x_K B D cy z U) : x_K B D cy z (U.calling g mk a) := by
  obtain ⟨h1, h2, h3, h4, h5, h6, h7, h8⟩ := h
  exact ⟨va_K.moved (u := U) (U := U.calling g mk a) (Vm.Alike.refl U.vm) h1, va_Nw.same rfl (rfl : U.vm = (U.calling g mk a).vm) h2, va_Nw.same rfl (rfl : U.vm = (U.calling g mk a).vm) h3, va_Nw.same rfl (rfl : U.vm = (U.calling g mk a).vm) h4, vk_R.same (rfl : (U.calling g mk a).vm = U.vm) h5, vk_S.moved (u := U) (U := U.calling g mk a) (Vm.Alike.refl U.vm) h6, ⟨va_Z.moved (u := U) (U := U.calling g mk a) (Vm.Alike.refl U.vm) h7.1, va_Zq.moved (u := U) (U := U.calling g mk a) (Vm.Alike.refl U.vm) h7.2.1, va_T.moved (u := U) (U := U.calling g mk a) (Vm.Alike.refl U.vm) h7.2.2⟩, va_AO.moved (u := U) (U := U.calling g mk a) (Vm.Alike.refl U.vm) h8⟩
def x_C (M : xM) (p : Program) (s : State) (m : MethodId) (args : Array Value) (meth : Method) (c : Code) (B : Nat) (D : va_G) (cy : Nat → ClassId) (z : xZ) : Prop :=
  p.tables.exec = Jvm.exec ∧ c.code = M.2.1 ∧ c.maxLocals = M.2.2.1 ∧ s.vm.findClass M.1 = some m.cls ∧ (∀ w ∈ x_T, w.before args s = true) ∧ meth.sig.returnType = M.2.2.2.1 ∧ meth.locks = false ∧ ((M.2.2.2.2.1 = true → meth.name = "<init>") ∧ ∀ w, M.2.2.2.2.2 = some w → z = w) ∧ x_K B D cy z s
abbrev xP : Type := Option xV → Nat → xMr → xMi → Prop
def x_Q (B : Nat) (D : va_G) (cy : Nat → ClassId) (Q : xP) : Array Value → State → Outcome → State → Prop := fun _ st o t =>
  (∃ (r : Option xV) (n : Nat) (ρ : xMr) (σ : xMi), o = .returned (r.map (x_tv B)) ∧ Q r n ρ σ ∧ x_R B D cy n ρ σ t.heap) ∧ va_F (fun q => B ≤ q) st t
abbrev x_lv (B : Nat) (lv : List (Nat × xV)) : List (Nat × Value) := lv.map (fun q => (q.1, x_tv B q.2))
def x_Go (l : Launch) (M : xM) (d mc ms : Nat) (Q : xP) (n cu su pc : Nat) (lv : List (Nat × xV)) (st : List xV) (ρ : xMr) (σ : xMi) : Prop :=
  ∀ (p : Program) (e : Env) (s : State) (m : MethodId) (args : Array Value) (below : List Frame) (meth : Method) (c : Code) (B : Nat) (D : va_G) (cy : Nat → ClassId) (z : xZ) (H : Heap) (locs : List Loc) (ls : Array Slot),
    x_C M p s m args meth c B D cy z → x_R B D cy n ρ σ H → x_S B n cu s H locs → lv_has ls M.2.2.1 (x_lv B lv) →
    W p l e (x_rm d mc ms) s m args below meth c H locs cu su (MQ below (x_Q B D cy Q) args s mc ms (fun q => B ≤ q)) (F0 m pc ls (st.map (x_tv B)))
def x_Sp (l : Launch) (y : MethodName) (M : xM) (d mc ms n : Nat) (ρ : xMr) (σ : xMi) (av : List xV) (Q : xP) : Prop :=
  ∀ (B : Nat) (D : va_G) (cy : Nat → ClassId) (z : xZ), (∀ w, M.2.2.2.2.2 = some w → z = w) → Met l y (.code y M.2.1 M.2.2.1 M.2.2.2.1 :: x_T) (x_rm d mc ms) (va_Pc (av.map (x_tv B)) (fun U => x_R B D cy n ρ σ U.heap ∧ U.heap.size = B + n ∧ x_K B D cy z U)) (x_Q B D cy Q) mc ms (fun q => B ≤ q)
def x_la : Nat → List xV → List (Nat × xV)
  | _, [] => []
  | i, v :: vs => (i, v) :: x_la (if x_cat v = 2 then i + 2 else i + 1) vs
theorem x_la_lv (B : Nat) : ∀ (av : List xV) (i : Nat), lv_args i (av.map (x_tv B)) = x_lv B (x_la i av)
  | [], i => rfl
  | v :: vs, i => by
    show (i, x_tv B v) :: lv_args (if (x_tv B v).category = 2 then i + 2 else i + 1) (vs.map (x_tv B)) = (i, x_tv B v) :: x_lv B (x_la (if x_cat v = 2 then i + 2 else i + 1) vs)
    rw [x_cat_tv, x_la_lv B vs]
theorem x_sl_len (B : Nat) : ∀ (av : List xV), (lg_sl (av.map (x_tv B))).length = (av.map x_cat).sum
  | [] => rfl
  | v :: vs => by
    have h := x_sl_len B vs
    rcases v with q | a | a | a <;> simp [lg_sl, x_tv, x_cat, Value.category] at h ⊢ <;> omega
theorem x_Sp.of {l : Launch} {y : MethodName} {M : xM} {d mc ms n : Nat} {ρ : xMr} {σ : xMi} {av : List xV} {Q : xP} (hy : plainName y.cls = true) (hown : y.cls = M.1) (hini : M.2.2.2.2.1 = true → y.name = "<init>") (hlen : (av.map x_cat).sum ≤ M.2.2.1)
    (h : x_Go l M d mc ms Q n 0 0 0 (x_la 0 av) [] ρ σ) : x_Sp l y M d mc ms n ρ σ av Q := by
  intro B D cy z hzw
  refine Met.ofW (cc := M.2.1) (maxL := M.2.2.1) (ret := M.2.2.2.1) hy rfl ?_
  intro p e s m args below meth c s₁ Bd hml hv
  obtain ⟨rfl, hR, hz, hK⟩ := hv
  have hts := atoms_spec (ws := .code y M.2.1 M.2.2.1 M.2.2.2.1 :: x_T) Bd.pre
  have ho : s.vm.findClass M.1 = some m.cls := by rw [← hown]; exact findClass_of_methodNamed Bd.named
  have hl := lv_entry (av.map (x_tv B)) (n := M.2.2.1) (by rw [x_sl_len]; exact hlen)
  rw [lg_entry_eq]
  rw [x_la_lv] at hl
  exact h p e s m _ below meth c B D cy z s.heap [] _ ⟨Bd.exec, Bd.bytes, hml, ho, fun w hw => hts w (List.mem_cons_of_mem _ hw), Bd.returns, Bd.notSynchronized, ⟨fun hi => by rw [(name_of_methodNamed Bd.named Bd.method).1]; exact hini hi, hzw⟩, hK⟩ hR ⟨va_S.rf, hz⟩ hl
theorem x_nw {ini : xB} {b : Bool} : ∀ w, ((b, none) : xB).2 = some w → ini.2 = some w := fun w h => absurd h (by simp)
