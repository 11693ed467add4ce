/-! the class's methods leave the reference's memory as it is -/
theorem q_write {σ : xMi} {c1 : Int} {z : Nat} : eM σ (S_X6_write σ c1 z) := fun t i k ht => by
  unfold S_X6_write
  (repeat' split) <;> first | rfl | exact fr_S_X5_append _ _ _ (by omega)
theorem q_wipe {σ : xMi} : eM σ (S_X6_wipe σ) := fun t i k ht => x_up_k (by omega)
theorem q_fault {σ : xMi} : eM σ (S_X6_fault σ) := (readInto_s σ).2
theorem q_lay {σ : xMi} : eM σ (S_X6_lay σ) := by
  intro t i k ht
  have e1 : ∀ s : xMi, S_X6_startFromDraft s t i k = s t i k := fun s => by
    unfold S_X6_startFromDraft
    rw [x_up_k (by omega), x_up_k (by omega), x_up_k (by omega), fr_S_X0_start _ _ (by omega), fr_S_X3_copyFrom _ _ _ (by omega)]
  unfold S_X6_lay
  (repeat' split) <;> first | exact (readInto_s σ).2 t i k ht | (rw [e1]; exact (readInto_s σ).2 t i k ht)
theorem q_send {σ : xMi} {p1 : Int} {K τ : Nat} : eM σ (S_X6_send σ p1 K τ) := fun t i k ht => by
  unfold S_X6_send
  (repeat' split) <;> first | rfl | (rw [fr_S_X0_dispatch _ _ _ (by omega), push_M t i k ht])
theorem q_call {σ : xMi} {p1 : Int} {K τ : Nat} : eM σ (S_X6_call σ p1 K τ) := fun t i k ht => by
  unfold S_X6_call
  (repeat' split) <;> first | rfl | (rw [fr_S_X0_recall _ _ _ (by omega), push_M t i k ht])
theorem q_buy {σ : xMi} {τ : Nat} : eM σ (S_X6_buy σ τ) := fun t i k ht => by
  unfold S_X6_buy
  (repeat' split) <;> first | rfl | (rw [x_up_k (by omega), push_M t i k ht])
theorem q_pass {σ : xMi} {n1 : Int} {K τ : Nat} : eM σ (S_X6_pass σ n1 K τ) := fun t i k ht => by
  unfold S_X6_pass
  (repeat' split) <;> first | rfl | (rw [fr_S_X0_passDays _ _ _ _ (by omega), push_M t i k ht])
theorem q_undo {σ : xMi} {τ : Nat} : eM σ (S_X6_undo σ τ) := fun t i k ht => by
  unfold S_X6_undo
  (repeat' split) <;> exact fr_S_X2_popInto _ _ _ _ (by omega)
theorem q_behind {σ : xMi} {n1 w1 : Int} {K : Nat} : eM σ (S_X6_behind σ n1 w1 K) := fun t i k ht => by
  unfold S_X6_behind
  (repeat' split) <;> first | rfl | (rw [fr_S_X0_passDays _ _ _ _ (by omega)]; exact copy_eM t i k ht)
theorem q_when {σ : xMi} {p1 : Int} {K : Nat} : eM σ (S_X6_when σ p1 K) := fun t i k ht => by
  unfold S_X6_when
  split
  · rfl
  · exact (copy_eM.tr (when_sC (p1 := p1) (K := K) 61 0 (S_X0_copyFrom σ 1 0)).2) t i k ht
theorem q_order {σ : xMi} {k1 : Int} {K : Nat} : eM σ (S_X6_order σ k1 K) := fun t i k ht => by
  unfold S_X6_order
  (repeat' split) <;> first | rfl | exact run_s.2 t i k ht
theorem q_need16 {K : Nat} : ∀ (k e : Nat) (s : xMi) (a : Int), eM s (RS_X6_need_16 K k e s a)
  | 0, _, _, _ => fun _ _ _ _ => rfl
  | k + 1, e, s, a => fun t i j ht => by
    unfold RS_X6_need_16
    split
    · exact run_s.2 t i j ht
    · exact (run_s.2.tr (q_need16 k (e + 1) _ a)) t i j ht
theorem q_need {σ : xMi} {K : Nat} : eM σ (S_X6_need σ K) := run_s.2.tr (q_need16 20 0 _ _)
theorem q_seen {σ : xMi} {n1 p1 i1 : Int} {z : Nat} : eM σ (S_X6_seen σ n1 p1 i1 z) := fun t i k ht => by
  unfold S_X6_seen S_X4_add
  (repeat' split) <;> first | rfl | (simp (disch := omega) only [x_up_k])
theorem q_forget {σ : xMi} : eM σ (S_X6_forget σ) := fun t i k ht => x_up_k (by omega)
theorem q_kinds {σ : xMi} {p1 : Int} {K z : Nat} : eM σ (S_X6_kinds σ p1 K z) := fun t i k ht => by
  unfold S_X6_kinds
  split
  · rfl
  · exact (rc_s.2.tr (kinds_s (K := K) (z := z) (p1 := p1) 4 0 (S_X3_copyFrom σ 2 0) 0).2) t i k ht
theorem q_days {σ : xMi} {p1 w1 : Int} {K z : Nat} : eM σ (S_X6_days σ p1 w1 K z) := fun t i k ht => by
  unfold S_X6_days
  (repeat' split) <;> first | rfl | exact (rc_s.2.tr (days_s (K := K) (z := z) (p1 := p1) (w1 := w1) 41 (S_X3_copyFrom σ 2 0) 0 (-4)).2) t i k ht
theorem q_likely50 {p1 n1 x1 t1 : Int} {K : Nat} : ∀ (k e : Nat) (s : xMi) (a b : Int), eM s (RS_X6_likely_50 p1 n1 x1 t1 K k e s a b)
  | 0, _, s, a, b => (likely_s (2 ^ n1.toNat) 0 s a b).2
  | k + 1, e, s, a, b => q_likely50 k (e + 1) s a (b * 10)
theorem q_likely {σ : xMi} {p1 n1 x1 t1 : Int} {K : Nat} : eM σ (S_X6_likely σ p1 n1 x1 t1 K) := fun t i k ht => by
  unfold S_X6_likely
  (repeat' split) <;> first | rfl | exact q_likely50 _ _ _ _ _ t i k ht
theorem q_year {σ : xMi} {z1 n1 w1 : Int} {K : Nat} : eM σ (S_X6_year σ z1 n1 w1 K) := fun t i k ht => by
  unfold S_X6_year
  (repeat' split) <;> first | rfl | exact (copy_eM.tr (year_s (z1 := z1) (n1 := n1) (w1 := w1) (K := K) n1.toNat 0 (S_X0_copyFrom σ 1 0)).2) t i k ht
theorem q_keep {σ : xMi} {τ1 : Nat} : eM σ (S_X6_keep σ τ1) := fun t i k ht => by
  unfold S_X6_keep
  split
  · exact push_M t i k ht
  · rfl
theorem q_back {σ : xMi} {τ1 : Nat} : eM σ (S_X6_back σ τ1) := fun t i k ht => by
  unfold S_X6_back
  split
  · exact fr_S_X2_popInto _ _ _ _ (by omega)
  · rw [x_up_k (by omega)]; exact fr_S_X2_popInto _ _ _ _ (by omega)
