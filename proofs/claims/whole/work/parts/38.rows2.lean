/-- those that are open, from p on, k of them looked at -/
def opb (f : Nat → Bool) : Nat → Nat → List Nat
  | 0, _ => []
  | k + 1, p => if f p then p :: opb f k (p + 1) else opb f k (p + 1)
def isOp (σ : xMi) (p : Nat) : Bool := !decide (x_wr (V_X7_isOpen σ p) = 0)
theorem Rw_add {R : Nat} {σ : xMi} {q : List Nat} (h : Rw R σ q) {v : Nat} (hv : v < 6) (hr : σ 24 0 31 = (R : Int)) : Rw (R + 1) (x_up (x_up σ 44 0 (σ 24 0 31).toNat (v : Int)) 24 0 31 (((x_up σ 44 0 (σ 24 0 31).toNat (v : Int)) 24 0 31) + 1)) (q ++ [v]) := by
  refine ⟨by rw [List.length_append, h.1]; rfl, fun j hj => ?_⟩
  rw [x_up_o (by omega), hr, Int.toNat_natCast, x_up_s]
  by_cases c : j = R
  · rw [if_pos c, List.getD_eq_getElem?_getD, List.getElem?_append_right (by rw [h.1]; omega), h.1, c, Nat.sub_self]
    exact ⟨rfl, hv⟩
  · rw [if_neg c, List.getD_eq_getElem?_getD, List.getElem?_append_left (by rw [h.1]; omega), ← List.getD_eq_getElem?_getD]
    exact h.2 j (by omega)
theorem Rw_firstRow (K : Nat) (σ0 : xMi) : ∀ (k p : Nat) (σ : xMi) (q : List Nat), p + k ≤ 6 → Rw q.length σ q → σ 24 0 31 = (q.length : Int) → (∀ j, V_X7_isOpen σ j = V_X7_isOpen σ0 j) → Rw (q ++ opb (isOp σ0) k p).length (RS_X7_firstRow_7 K k p σ) (q ++ opb (isOp σ0) k p) ∧ RS_X7_firstRow_7 K k p σ 24 0 31 = ((q ++ opb (isOp σ0) k p).length : Int) := by
  intro k
  induction k with
  | zero => intro p σ q _ h hr _; simp only [opb, List.append_nil]; exact ⟨h, hr⟩
  | succ k ih =>
    intro p σ q hp h hr ho
    rw [RS_X7_firstRow_7, opb, ho p]
    by_cases c : x_wr (V_X7_isOpen σ0 p) = 0
    · rw [if_pos c, if_neg (by simp [isOp, c])]
      exact ih (p + 1) σ q (by omega) h hr ho
    · rw [if_neg c, if_pos (by simp [isOp, c]), show q ++ p :: opb (isOp σ0) k (p + 1) = (q ++ [p]) ++ opb (isOp σ0) k (p + 1) by simp]
      refine ih (p + 1) _ (q ++ [p]) (by omega) ?_ ?_ ?_
      · rw [show (q ++ [p]).length = q.length + 1 by simp]
        exact Rw_add h (by omega) hr
      · rw [show (q ++ [p]).length = q.length + 1 by simp, x_up_s, if_pos rfl, x_up_o (by omega), hr]; omega
      · intro j
        rw [← ho j]
        unfold V_X7_isOpen
        simp (disch := omega) only [x_up_o]
/-- the open ones of the reference -/
def opl (σ : xMi) (K : Nat) : List Nat := opb (isOp σ) K 0
theorem Rw_first (σ : xMi) {K : Nat} (hK : K ≤ 6) : Rw (opl σ K).length (S_X7_firstRow σ K) (opl σ K) ∧ S_X7_firstRow σ K 24 0 31 = ((opl σ K).length : Int) := by
  have h := Rw_firstRow K σ K 0 (x_up σ 24 0 31 0) [] (by omega) ⟨rfl, fun j hj => absurd hj (Nat.not_lt_zero _)⟩ (by rw [x_up_s, if_pos rfl]; rfl) (fun j => by unfold V_X7_isOpen; simp (disch := omega) only [x_up_o])
  rw [List.nil_append] at h
  exact h
theorem opb_le (f : Nat → Bool) : ∀ k p, (opb f k p).length ≤ k := by
  intro k
  induction k with
  | zero => intro p; exact Nat.le_refl _
  | succ k ih =>
    intro p
    rw [opb]
    have := ih (p + 1)
    split
    · rw [List.length_cons]; omega
    · omega
theorem opb_fin : ∀ b0 b1 b2 b3 b4 b5 : Bool, ∀ K, K < 7 → opb (fun p => [b0, b1, b2, b3, b4, b5].getD p false) K 0 ∈ rise 6 := by decide +kernel
theorem opb_cg (f g : Nat → Bool) : ∀ k p, (∀ j, p ≤ j → j < p + k → f j = g j) → opb f k p = opb g k p := by
  intro k
  induction k with
  | zero => intro p _; rfl
  | succ k ih =>
    intro p h
    rw [opb, opb, h p (Nat.le_refl _) (by omega), ih (p + 1) (fun j h1 h2 => h j (by omega) (by omega))]
theorem opb_rise (f : Nat → Bool) {K : Nat} (hK : K ≤ 6) : opb f K 0 ∈ rise 6 := by
  rw [opb_cg f (fun p => [f 0, f 1, f 2, f 3, f 4, f 5].getD p false) K 0 ?_]
  · exact opb_fin _ _ _ _ _ _ K (by omega)
  · intro j _ h
    have : j = 0 ∨ j = 1 ∨ j = 2 ∨ j = 3 ∨ j = 4 ∨ j = 5 := by omega
    rcases this with h | h | h | h | h | h <;> subst h <;> rfl
theorem chk_opl (σ : xMi) {K : Nat} (hK : K ≤ 6) : chk (px (opl σ K).length (opl σ K)) = true ∧ (px (opl σ K).length (opl σ K)).head? = some (opl σ K) ∧ (px (opl σ K).length (opl σ K)).length ≤ 720 := by
  have h := List.all_eq_true.mp chk_all _ (opb_rise (isOp σ) hK)
  simp only [Bool.and_eq_true, beq_iff_eq] at h
  exact ⟨h.1.1, h.1.2, Nat.le_of_ble_eq_true h.2⟩
theorem RP_0 (h1 : Int) (K R k : Nat) (σ : xMi) (a : Int) : RP_X7_mostBy_9 h1 K R k σ 0 a := by
  cases k with
  | zero => exact (by decide : x_wr 0 = 0)
  | succ k => rw [RP_X7_mostBy_9, if_pos (by decide : x_wr 0 = 0)]; trivial
theorem Rw_cg {R : Nat} {σ σ' : xMi} {p : List Nat} (h : Rw R σ p) (e : ∀ j, σ' 44 0 j = σ 44 0 j) : Rw R σ' p := ⟨h.1, fun j hj => by rw [e]; exact h.2 j hj⟩
theorem RP_all (h1 : Int) (K R : Nat) (hR : R ≤ 6) : ∀ (k : Nat) (σ : xMi) (a : Int) (p : List Nat) (r : List (List Nat)), chk (p :: r) = true → r.length < k → Rw R σ p → σ 24 0 31 = (R : Int) → RP_X7_mostBy_9 h1 K R k σ 1 a := by
  intro k
  induction k with
  | zero => intro σ a p r _ h; omega
  | succ k ih =>
    intro σ a p r hc hk h hr
    have key : ∀ (X : xMi) (a' : Int), (∀ j, X 44 0 j = σ 44 0 j) → X 24 0 31 = σ 24 0 31 → RP_X7_mostBy_9 h1 K R k (S_X7_nextRow X R) (V_X7_nextRow X R) a' := by
      intro X a' e1 e2
      have hX := Rw_nextRow hR (Rw_cg h e1) (e2.trans hr)
      cases r with
      | nil =>
        rw [chk, beq_iff_eq] at hc
        rw [hc] at hX
        rw [hX.2]; exact RP_0 _ _ _ _ _ _
      | cons q r =>
        rw [chk, Bool.and_eq_true, beq_iff_eq] at hc
        rw [hc.1] at hX
        rw [hX.2]
        exact ih _ a' q r hc.2 (by rw [List.length_cons] at hk; omega) hX.1 (by rw [fr_S_X7_nextRow _ _ (by omega)]; exact e2.trans hr)
    rw [RP_X7_mostBy_9, if_neg (by decide : ¬ x_wr 1 = 0)]
    split
    · refine key _ _ (fun j => ?_) ?_ <;> simp (disch := omega) only [fr_S_X7_gentleBy]
    · refine key _ _ (fun j => ?_) ?_ <;> simp (disch := omega) only [fr_S_X7_gentleBy, fr_IS_X7_mostBy_32]
/-- how many are open -/
def opn (σ : xMi) (K : Nat) : Nat := (opl σ K).length
theorem opn_le (σ : xMi) {K : Nat} (hK : K ≤ 6) : opn σ K ≤ 6 := Nat.le_trans (opb_le _ _ _) hK
theorem most_st (σ : xMi) (h1 : Int) {K : Nat} (hK : K ≤ 6) : RP_X7_mostBy_9 h1 K (opn σ K) 720 (S_X7_firstRow σ K) 1 (-4) := by
  have h := chk_opl σ hK
  have hf := Rw_first σ hK
  cases e : px (opl σ K).length (opl σ K) with
  | nil => rw [e] at h; cases h.2.1
  | cons p r =>
    rw [e] at h
    have e2 : p = opl σ K := Option.some.inj h.2.1
    rw [e2] at h
    exact RP_all h1 K (opn σ K) (opn_le σ hK) 720 _ _ (opl σ K) r h.1 (by have := h.2.2; rw [List.length_cons] at this; omega) hf.1 hf.2
theorem hw_firstRow (K : Nat) : ∀ (k p : Nat) (σ : xMi), p + k ≤ 6 → (∀ j, 0 ≤ σ 44 0 j ∧ σ 44 0 j < 6) → ∀ j, 0 ≤ RS_X7_firstRow_7 K k p σ 44 0 j ∧ RS_X7_firstRow_7 K k p σ 44 0 j < 6 := by
  intro k
  induction k with
  | zero => intro p σ _ h; exact h
  | succ k ih =>
    intro p σ hp h
    rw [RS_X7_firstRow_7]
    split
    · exact ih _ _ (by omega) h
    · refine ih _ _ (by omega) (fun j => ?_)
      rw [x_up_o (by omega)]
      exact hw_up h _ _ (by omega) j
theorem most_fw (σ : xMi) {K : Nat} (hK : K ≤ 6) (h : ∀ j, 0 ≤ σ 44 0 j ∧ σ 44 0 j < 6) : ∀ j, 0 ≤ S_X7_firstRow σ K 44 0 j ∧ S_X7_firstRow σ K 44 0 j < 6 := by
  refine hw_firstRow K K 0 _ (by omega) (fun j => ?_)
  rw [x_up_o (by omega)]; exact h j
theorem hw_RSmost (h1 : Int) (K R : Nat) : ∀ (k : Nat) (σ : xMi) (mr a : Int), (∀ j, 0 ≤ σ 44 0 j ∧ σ 44 0 j < 6) → ∀ j, 0 ≤ RS_X7_mostBy_9 h1 K R k σ mr a 44 0 j ∧ RS_X7_mostBy_9 h1 K R k σ mr a 44 0 j < 6 := by
  intro k
  induction k with
  | zero => intro σ mr a h; exact h
  | succ k ih =>
    intro σ mr a h
    rw [RS_X7_mostBy_9]
    split
    · exact h
    · split
      · exact ih _ _ _ (hw_nextRow _ _ (fun j => by rw [fr_S_X7_gentleBy _ _ _ _ (by omega)]; exact h j))
      · exact ih _ _ _ (hw_nextRow _ _ (fun j => by rw [fr_IS_X7_mostBy_32 _ _ _ (by omega), fr_S_X7_gentleBy _ _ _ _ (by omega)]; exact h j))
def V_X7_most (σ : xMi) (h1 : Int) (K : Nat) : Int := V_X7_mostBy σ h1 K (opn σ K)
def S_X7_most (σ : xMi) (h1 : Int) (K : Nat) : xMi := S_X7_mostBy σ h1 K (opn σ K)
theorem fr_S_X7_most (σ : xMi) (h1 : Int) (K : Nat) {t i k : Nat} (h : ¬ (t = 43 ∨ t = 44 ∨ t = 45 ∨ (t = 24 ∧ k = 31) ∨ (t = 24 ∧ 5 ≤ k ∧ k ≤ 8) ∨ (29 ≤ t ∧ t ≤ 36))) : S_X7_most σ h1 K t i k = σ t i k := fr_S_X7_mostBy σ h1 K _ h
theorem hw_most (σ : xMi) (h1 : Int) {K : Nat} (hK : K ≤ 6) (h : ∀ j, 0 ≤ σ 44 0 j ∧ σ 44 0 j < 6) : ∀ j, 0 ≤ S_X7_most σ h1 K 44 0 j ∧ S_X7_most σ h1 K 44 0 j < 6 := hw_RSmost h1 K _ _ _ _ _ (most_fw σ hK h)
theorem c_X7_mostBy_w (l : Launch) (n : Nat) (σ : xMi) (h1 : Int) (K : Nat) (hn : 154 ≤ n) (hK : K ≤ 6) (hmy : σ 24 0 0 = (K : Int)) (hrw : ∀ j, 0 ≤ σ 44 0 j ∧ σ 44 0 j < 6) : x_F l yX7_mostBy RX7 cX7_mostBy 6 (some .int) 4 n σ [xR 24 0, xI h1] (some (xI (V_X7_most σ h1 K))) (S_X7_most σ h1 K) :=
  c_X7_mostBy l n σ h1 K (opn σ K) hn hK (opn_le σ hK) hmy (most_st σ h1 hK) (Rw_first σ hK).2 (most_fw σ hK hrw)
