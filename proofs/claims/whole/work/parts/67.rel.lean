/-! what holds between the two memories: s of the class, m of the reference -/
def gS (K : Nat) (s m : xMi) (f : Nat) (a : aS) : Prop := cF f s K a ∧ aW K 999 a ∧ aN (rF m) K a
def pL (j L b T c K n τ : Nat) (s m : xMi) : Prop := n ≤ L ∧ τ < L ∧ s 13 j 1 = (n : Int) ∧ s 13 j 2 = (τ : Int) ∧ m 24 0 c = (n : Int) ∧ ∀ i, i < n → gS K s m (b + (τ + L - i) % L) (sA T m (52 * (n - 1 - i)))
def pZ (K z : Nat) (s m : xMi) : Prop := z ≤ 6 ∧ s 15 0 3 = (z : Int) ∧ m 24 0 17 = (z : Int) ∧ (∀ k, k < z → s 16 0 k = m 37 0 k ∧ s 17 0 k = m 38 0 k ∧ s 18 0 k = m 39 0 k ∧ (m 39 0 k = 0 ∨ m 39 0 k = 1) ∧ m 38 0 k < K) ∧ (∀ k, 0 ≤ s 16 0 k ∧ s 16 0 k ≤ 40) ∧ (∀ k, 0 ≤ s 17 0 k ∧ s 17 0 k < 6) ∧ (∀ k, 0 ≤ m 38 0 k ∧ m 38 0 k < 6)
def pT (w : Nat) (s m : xMi) : Prop := w ≤ 200 ∧ s 10 0 2 = (w : Int) ∧ m 24 0 22 = (w : Int) ∧ (∀ k, k < w → s 11 0 k = m 40 0 k) ∧ (∀ k, 0 ≤ s 11 0 k ∧ s 11 0 k < 65536)
def pK (K : Nat) (s m : xMi) : Prop := 0 < K ∧ K ≤ 6 ∧ s 5 0 4 = (K : Int) ∧ m 24 0 0 = (K : Int) ∧ cR 0 s K (rF m) ∧ aF K (rF m)
def pO (m : xMi) : Prop := ∀ j, 0 ≤ m 44 0 j ∧ m 44 0 j < 6
def Rl (K u τ v τ1 z w : Nat) (s m : xMi) : Prop := pK K s m ∧ gS K s m 0 (rA m) ∧ pL 0 8 3 42 29 K u τ s m ∧ pL 1 2 11 46 35 K v τ1 s m ∧ pZ K z s m ∧ pT w s m ∧ pO m
/-- the class's memory is the same where it counts -/
def sC (s s' : xMi) : Prop := ∀ t i k, t < 24 → ¬ (t ≤ 4 ∧ (i = 1 ∨ i = 2 ∨ 13 ≤ i)) → ¬ (5 ≤ t ∧ t ≤ 9 ∧ (i = 1 ∨ i = 2)) → t ≠ 12 → t ≠ 19 → t ≠ 21 → t ≠ 22 → s' t i k = s t i k
/-- the reference's memory is the same where it counts -/
def sR (m m' : xMi) : Prop := rA m' = rA m ∧ rF m' = rF m ∧ m' 24 0 0 = m 24 0 0 ∧ m' 24 0 17 = m 24 0 17 ∧ m' 24 0 22 = m 24 0 22 ∧ m' 24 0 29 = m 24 0 29 ∧ m' 24 0 35 = m 24 0 35 ∧ (∀ t k, t = 37 ∨ t = 38 ∨ t = 39 ∨ t = 40 ∨ t = 42 ∨ t = 46 → m' t 0 k = m t 0 k)
theorem sC.rf (s : xMi) : sC s s := fun _ _ _ _ _ _ _ _ _ _ => rfl
theorem sC.tr {s s' s2 : xMi} (h : sC s s') (h2 : sC s' s2) : sC s s2 := fun t i k a b c d e f g => (h2 t i k a b c d e f g).trans (h t i k a b c d e f g)
theorem sR.rf (m : xMi) : sR m m := ⟨rfl, rfl, rfl, rfl, rfl, rfl, rfl, fun _ _ _ => rfl⟩
theorem sR.tr {m m' m2 : xMi} (h : sR m m') (h2 : sR m' m2) : sR m m2 := by
  obtain ⟨a1, a2, a3, a4, a5, a6, a7, a8⟩ := h
  obtain ⟨b1, b2, b3, b4, b5, b6, b7, b8⟩ := h2
  exact ⟨b1.trans a1, b2.trans a2, b3.trans a3, b4.trans a4, b5.trans a5, b6.trans a6, b7.trans a7, fun t k z => (b8 t k z).trans (a8 t k z)⟩
theorem gS.scr {K : Nat} {s s' m m' : xMi} {f : Nat} {a : aS} (h : gS K s m f a) (hC : sC s s') (hF : rF m' = rF m) (hf : f ≠ 1 ∧ f ≠ 2 ∧ f < 13) : gS K s' m' f a := by
  obtain ⟨h1, h2, h3⟩ := h
  exact ⟨h1.same (fun t ht k => hC t f k (by omega) (by omega) (by omega) (by omega) (by omega) (by omega) (by omega)), h2, by rw [hF]; exact h3⟩
theorem pL.scr {j L b T c K n τ : Nat} {s s' m m' : xMi} (h : pL j L b T c K n τ s m) (hC : sC s s') (hF : rF m' = rF m) (hb : 3 ≤ b ∧ b + L ≤ 13) (hc : m' 24 0 c = m 24 0 c) (hT : ∀ k, m' T 0 k = m T 0 k) : pL j L b T c K n τ s' m' := by
  obtain ⟨h1, h2, h3, h4, h5, h6⟩ := h
  refine ⟨h1, h2, by rw [hC 13 j 1 (by omega) (by omega) (by omega) (by omega) (by omega) (by omega) (by omega)]; exact h3, by rw [hC 13 j 2 (by omega) (by omega) (by omega) (by omega) (by omega) (by omega) (by omega)]; exact h4, by rw [hc]; exact h5, fun i hi => ?_⟩
  have hl := Nat.mod_lt (τ + L - i) (by omega : L > 0)
  rw [sA_cong (fun k _ _ => hT k)]
  exact (h6 i hi).scr hC hF (by omega)
theorem Rl.scr {K u τ v τ1 z w : Nat} {s s' m m' : xMi} (h : Rl K u τ v τ1 z w s m) (hC : sC s s') (hR : sR m m') (hO : pO m') : Rl K u τ v τ1 z w s' m' := by
  obtain ⟨⟨k1, k2, k3, k4, k5, k6⟩, g, hU, hV, ⟨z1, z2, z3, z4, z5, z6, z7⟩, ⟨t1, t2, t3, t4, t5⟩, -⟩ := h
  obtain ⟨a1, a2, a3, a4, a5, a6, a7, a8⟩ := hR
  refine ⟨⟨k1, k2, ?_, by rw [a3]; exact k4, ?_, by rw [a2]; exact k6⟩, ?_, hU.scr hC a2 (by omega) a6 (fun k => a8 _ _ (by omega)), hV.scr hC a2 (by omega) a7 (fun k => a8 _ _ (by omega)), ⟨z1, ?_, by rw [a4]; exact z3, fun k hk => ?_, fun k => ?_, fun k => ?_, fun k => ?_⟩, ⟨t1, ?_, by rw [a5]; exact t3, fun k hk => ?_, fun k => ?_⟩, hO⟩
  · rw [hC 5 0 4 (by omega) (by omega) (by omega) (by omega) (by omega) (by omega) (by omega)]; exact k3
  · rw [a2]; exact k5.same (fun t h1 h2 k => hC t 0 k (by omega) (by omega) (by omega) (by omega) (by omega) (by omega) (by omega))
  · rw [a1]; exact g.scr hC a2 (by omega)
  · rw [hC 15 0 3 (by omega) (by omega) (by omega) (by omega) (by omega) (by omega) (by omega)]; exact z2
  · rw [hC 16 0 k (by omega) (by omega) (by omega) (by omega) (by omega) (by omega) (by omega), hC 17 0 k (by omega) (by omega) (by omega) (by omega) (by omega) (by omega) (by omega), hC 18 0 k (by omega) (by omega) (by omega) (by omega) (by omega) (by omega) (by omega), a8 37 k (by omega), a8 38 k (by omega), a8 39 k (by omega)]; exact z4 k hk
  · rw [hC 16 0 k (by omega) (by omega) (by omega) (by omega) (by omega) (by omega) (by omega)]; exact z5 k
  · rw [hC 17 0 k (by omega) (by omega) (by omega) (by omega) (by omega) (by omega) (by omega)]; exact z6 k
  · rw [a8 38 k (by omega)]; exact z7 k
  · rw [hC 10 0 2 (by omega) (by omega) (by omega) (by omega) (by omega) (by omega) (by omega)]; exact t2
  · rw [hC 11 0 k (by omega) (by omega) (by omega) (by omega) (by omega) (by omega) (by omega), a8 40 k (by omega)]; exact t4 k hk
  · rw [hC 11 0 k (by omega) (by omega) (by omega) (by omega) (by omega) (by omega) (by omega)]; exact t5 k
/-- one side's memory, untouched by the other's acts -/
def eM (m m' : xMi) : Prop := ∀ t i k, 24 ≤ t → m' t i k = m t i k
def eC (s s' : xMi) : Prop := ∀ t i k, t < 24 → s' t i k = s t i k
theorem eM.R {m m' : xMi} (h : eM m m') : sR m m' := by
  refine ⟨?_, ?_, h _ _ _ (by omega), h _ _ _ (by omega), h _ _ _ (by omega), h _ _ _ (by omega), h _ _ _ (by omega), fun t k z => h _ _ _ (by omega)⟩
  · funext j q; unfold rA; rw [h _ _ _ (by omega), h _ _ _ (by omega)]
  · funext j q; unfold rF; rw [h _ _ _ (by omega)]
theorem eM.O {m m' : xMi} (h : eM m m') (hO : pO m) : pO m' := fun j => by rw [h 44 0 j (by omega)]; exact hO j
theorem eC.C {s s' : xMi} (h : eC s s') : sC s s' := fun t i k a _ _ _ _ _ _ => h t i k a
/-- both done: the class from s to s', the reference from s' to m' -/
theorem Rl.done {K u τ v τ1 z w : Nat} {s' m' : xMi} (h : Rl K u τ v τ1 z w s' m') (he : eC s' m') : Rl K u τ v τ1 z w m' m' := h.scr he.C (sR.rf _) h.2.2.2.2.2.2
theorem Rl.begun {K u τ v τ1 z w : Nat} {s s' : xMi} (h : Rl K u τ v τ1 z w s s) (he : eM s s') : Rl K u τ v τ1 z w s s' := h.scr (sC.rf _) he.R (he.O h.2.2.2.2.2.2)
/-! piles -/
theorem push_eq {s : xMi} {j L τ : Nat} (hL : x_ln 14 j = L) (hLs : L ≤ 8) (hτ : τ < L) (h2 : s 13 j 2 = (τ : Int)) : S_X2_push s j 0 τ = x_up (S_X0_copyFrom (x_up s 13 j 2 (((τ + 1) % L : Nat) : Int)) (x_pf j ((τ + 1) % L)) 0) 13 j 1 (x_min (s 13 j 1 + 1) (L : Int)) := by
  unfold S_X2_push
  rw [hL, h2, x_wrs (a := (L : Int)) (by omega) (by omega), x_wrs (a := (τ : Int) + 1) (by omega) (by omega)]
  by_cases c : (L : Int) ≤ (τ : Int) + 1
  · have e : (τ + 1) % L = 0 := by rw [(by omega : τ + 1 = L)]; exact Nat.mod_self L
    rw [if_pos c, e, fr_S_X0_copyFrom _ _ _ (by omega)]
    simp [x_up]
  · have e : (τ + 1) % L = τ + 1 := Nat.mod_eq_of_lt (by omega)
    rw [if_neg c, e, fr_S_X0_copyFrom _ _ _ (by omega)]
    simp [x_up]
theorem pop_eq {s : xMi} {j L τ n : Nat} (hL : x_ln 14 j = L) (hLs : L ≤ 8) (hτ : τ < L) (h2 : s 13 j 2 = (τ : Int)) (h1 : s 13 j 1 = (n : Int)) (hn : 0 < n) (hn8 : n ≤ L) : S_X2_popInto s j 0 τ = x_up (x_up (S_X0_copyFrom s 0 (x_pf j τ)) 13 j 2 (((τ + L - 1) % L : Nat) : Int)) 13 j 1 ((n : Int) - 1) ∧ V_X2_popInto s j 0 τ = 1 := by
  have f2 : S_X0_copyFrom s 0 (x_pf j τ) 13 j 2 = (τ : Int) := by rw [fr_S_X0_copyFrom _ _ _ (by omega)]; exact h2
  have f1 : S_X0_copyFrom s 0 (x_pf j τ) 13 j 1 = (n : Int) := by rw [fr_S_X0_copyFrom _ _ _ (by omega)]; exact h1
  unfold S_X2_popInto V_X2_popInto
  have hn0 : ¬ (n : Int) = 0 := by omega
  rw [hL, h1, f2, x_wrs (a := (n : Int)) (by omega) (by omega), x_wrs (a := (τ : Int)) (by omega) (by omega)]
  simp only [if_neg hn0]
  refine ⟨?_, by split <;> rfl⟩
  by_cases c : (τ : Int) ≤ 0
  · have e : (((τ + L - 1) % L : Nat) : Int) = (L : Int) - 1 := by
      rw [(by omega : τ + L - 1 = L - 1), Nat.mod_eq_of_lt (by omega)]; omega
    rw [if_pos c, e]
    congr 1
    rw [x_up_k (by omega), f1]
  · have e : (((τ + L - 1) % L : Nat) : Int) = (τ : Int) - 1 := by
      rw [(by omega : τ + L - 1 = (τ - 1) + L), Nat.add_mod_right, Nat.mod_eq_of_lt (by omega)]; omega
    rw [if_neg c, e]
    congr 1
    rw [x_up_k (by omega), f1]
theorem gS.s {K : Nat} {s s' m m' : xMi} {f : Nat} {a : aS} (h : gS K s m f a) (e : ∀ t, t ≤ 4 → ∀ k, s' t f k = s t f k) (hF : rF m' = rF m) : gS K s' m' f a := ⟨h.1.same e, h.2.1, by rw [hF]; exact h.2.2⟩
/-- a push on the class's pile, one more laid in the reference's row -/
theorem pL.push {j L b T c K n τ : Nat} {s m m' : xMi} (hj : (j = 0 ∧ L = 8 ∧ b = 3) ∨ (j = 1 ∧ L = 2 ∧ b = 11)) (hK : K ≤ 6) (h : pL j L b T c K n τ s m) (hg : gS K s m 0 (rA m)) (hF : rF m' = rF m) (hc : m' 24 0 c = ((if n = L then L else n + 1 : Nat) : Int))
    (h0 : sA T m' (52 * ((if n = L then L else n + 1) - 1)) = rA m) (h1 : ∀ i, i + 1 < (if n = L then L else n + 1) → sA T m' (52 * ((if n = L then L else n + 1) - 1 - (i + 1))) = sA T m (52 * (n - 1 - i))) :
    pL j L b T c K (if n = L then L else n + 1) ((τ + 1) % L) (S_X2_push s j 0 τ) m' := by
  obtain ⟨q1, q2, q3, q4, q5, q6⟩ := h
  have hL : x_ln 14 j = L := by rcases hj with ⟨rfl, rfl, rfl⟩ | ⟨rfl, rfl, rfl⟩ <;> rfl
  have hpf : ∀ t, x_pf j t = b + t := by rcases hj with ⟨rfl, rfl, rfl⟩ | ⟨rfl, rfl, rfl⟩ <;> intro t <;> simp [x_pf]
  have hL0 : 0 < L ∧ L ≤ 8 := by omega
  have hb : 3 ≤ b := by omega
  have hm := Nat.mod_lt (τ + 1) (by omega : L > 0)
  have e := push_eq hL hL0.2 q2 q4
  rw [hpf] at e
  rw [e]
  have hmin : x_min (s 13 j 1 + 1) (L : Int) = ((if n = L then L else n + 1 : Nat) : Int) := by
    rw [q3, x_min_le (by omega) (by omega)]
    (repeat' split) <;> omega
  rw [hmin]
  refine ⟨by split <;> omega, hm, by simp [x_up], ?_, hc, fun i hi => ?_⟩
  · rw [x_up_k (by omega), fr_S_X0_copyFrom _ _ _ (by omega)]
    simp [x_up]
  · match i with
    | 0 =>
      have e0 : ((τ + 1) % L + L - 0) % L = (τ + 1) % L := by rw [Nat.sub_zero, Nat.add_mod_right, Nat.mod_mod]
      rw [e0, Nat.sub_zero, h0]
      refine ⟨?_, hg.2.1, by rw [hF]; exact hg.2.2⟩
      refine (cF_copyFrom (f := b + (τ + 1) % L) (g := 0) (s := x_up s 13 j 2 (((τ + 1) % L : Nat) : Int)) hK (by omega) (hg.1.same (fun t ht k => x_up_k (by omega)))).same (fun t ht k => x_up_k (by omega))
    | i + 1 =>
      have hi' : i < n := by split at hi <;> omega
      have hiL : i + 1 < L := by split at hi <;> omega
      rw [h1 i hi]
      have e1 : ((τ + 1) % L + L - (i + 1)) % L = (τ + L - i) % L := by
        by_cases c : τ + 1 < L
        · rw [Nat.mod_eq_of_lt c, (by omega : τ + 1 + L - (i + 1) = τ + L - i)]
        · rw [(by omega : τ + 1 = L), Nat.mod_self, (by omega : 0 + L - (i + 1) = τ - i), (by omega : τ + L - i = (τ - i) + L), Nat.add_mod_right]
      have e2 : (τ + L - i) % L ≠ (τ + 1) % L := by
        by_cases c : τ + 1 < L
        · rw [Nat.mod_eq_of_lt c]
          by_cases d : i ≤ τ
          · rw [(by omega : τ + L - i = (τ - i) + L), Nat.add_mod_right, Nat.mod_eq_of_lt (by omega)]; omega
          · rw [Nat.mod_eq_of_lt (by omega)]; omega
        · rw [(by omega : τ + 1 = L), Nat.mod_self, (by omega : τ + L - i = (τ - i) + L), Nat.add_mod_right, Nat.mod_eq_of_lt (by omega)]; omega
      rw [e1]
      have hq := q6 i hi'
      refine hq.s (fun t ht k => ?_) hF
      rw [x_up_k (by omega), fr_S_X0_copyFrom _ _ _ (by omega), x_up_k (by omega)]
theorem pL.pop {j L b T c K n τ : Nat} {s m m' : xMi} (hj : (j = 0 ∧ L = 8 ∧ b = 3) ∨ (j = 1 ∧ L = 2 ∧ b = 11)) (hn : 0 < n) (h : pL j L b T c K n τ s m) (hF : rF m' = rF m) (hc : m' 24 0 c = (n : Int) - 1) (hT : ∀ k, m' T 0 k = m T 0 k) :
    pL j L b T c K (n - 1) ((τ + L - 1) % L) (S_X2_popInto s j 0 τ) m' := by
  obtain ⟨q1, q2, q3, q4, q5, q6⟩ := h
  have hL : x_ln 14 j = L := by rcases hj with ⟨rfl, rfl, rfl⟩ | ⟨rfl, rfl, rfl⟩ <;> rfl
  have hL0 : 0 < L ∧ L ≤ 8 := by omega
  have hm := Nat.mod_lt (τ + L - 1) (by omega : L > 0)
  have e := (pop_eq hL hL0.2 q2 q4 q3 hn q1).1
  rw [e]
  refine ⟨by omega, hm, ?_, ?_, by rw [hc]; omega, fun i hi => ?_⟩
  · simp [x_up]; omega
  · simp [x_up]
  · have e1 : ((τ + L - 1) % L + L - i) % L = (τ + L - (i + 1)) % L := by
      by_cases c : 1 ≤ τ
      · rw [(by omega : τ + L - 1 = (τ - 1) + L), Nat.add_mod_right, Nat.mod_eq_of_lt (by omega : τ - 1 < L), (by omega : τ - 1 + L - i = τ + L - (i + 1))]
      · rw [(by omega : τ + L - 1 = L - 1), Nat.mod_eq_of_lt (by omega : L - 1 < L), (by omega : L - 1 + L - i = (τ + L - (i + 1)) + L), Nat.add_mod_right]
    rw [e1, (by omega : n - 1 - 1 - i = n - 1 - (i + 1)), sA_cong (fun k _ _ => hT k)]
    have hm2 := Nat.mod_lt (τ + L - (i + 1)) (by omega : L > 0)
    refine (q6 (i + 1) (by omega)).s (fun t ht k => ?_) hF
    rw [x_up_k (by omega), x_up_k (by omega), fr_S_X0_copyFrom _ _ _ (by omega)]
theorem pop_now {j L b T c K n τ : Nat} {s m m' : xMi} (hj : (j = 0 ∧ L = 8 ∧ b = 3) ∨ (j = 1 ∧ L = 2 ∧ b = 11)) (hK : K ≤ 6) (hn : 0 < n) (h : pL j L b T c K n τ s m) (hF : rF m' = rF m) (hA : rA m' = sA T m (52 * (n - 1))) : gS K (S_X2_popInto s j 0 τ) m' 0 (rA m') := by
  obtain ⟨q1, q2, q3, q4, q5, q6⟩ := h
  have hL : x_ln 14 j = L := by rcases hj with ⟨rfl, rfl, rfl⟩ | ⟨rfl, rfl, rfl⟩ <;> rfl
  have hpf : ∀ t, x_pf j t = b + t := by rcases hj with ⟨rfl, rfl, rfl⟩ | ⟨rfl, rfl, rfl⟩ <;> intro t <;> simp [x_pf]
  have hL0 : 0 < L ∧ L ≤ 8 := by omega
  have e := (pop_eq hL hL0.2 q2 q4 q3 hn q1).1
  rw [hpf] at e
  rw [e, hA]
  have h0 := q6 0 hn
  rw [Nat.sub_zero, Nat.sub_zero, Nat.add_mod_right, Nat.mod_eq_of_lt q2] at h0
  refine ⟨?_, h0.2.1, by rw [hF]; exact h0.2.2⟩
  exact (cF_copyFrom (f := 0) (g := b + τ) hK (by omega) h0.1).same (fun t ht k => by rw [x_up_k (by omega), x_up_k (by omega)])
/-! the reference's notes -/
theorem nt_11 (u : Nat) : ∀ (k e : Nat) (m : xMi), ∃ m1, RS_X7_notes_11 u k e m = (x_up (S_X7_lays_42 (x_up m1 24 0 29 ((m1 24 0 29) - 1)) (52 * 7)) 24 0 29 (((S_X7_lays_42 (x_up m1 24 0 29 ((m1 24 0 29) - 1)) (52 * 7)) 24 0 29) + 1)) ∧ (∀ t i x, t ≠ 42 → m1 t i x = m t i x) ∧ (∀ x, e ≤ x → x < e + k → m1 42 0 x = m 42 0 (x + 52)) := by
  intro k
  induction k with
  | zero => intro e m; exact ⟨m, rfl, fun _ _ _ _ => rfl, fun x h1 h2 => by omega⟩
  | succ k ih =>
    intro e m
    obtain ⟨m1, h1, h2, h3⟩ := ih (e + 1) (x_up m 42 0 e (m 42 0 (e + 52)))
    have key : ∀ (k e : Nat) (m : xMi), ∃ m1, RS_X7_notes_11 u k e m = (x_up (S_X7_lays_42 (x_up m1 24 0 29 ((m1 24 0 29) - 1)) (52 * 7)) 24 0 29 (((S_X7_lays_42 (x_up m1 24 0 29 ((m1 24 0 29) - 1)) (52 * 7)) 24 0 29) + 1)) ∧ (∀ t i x, t ≠ 42 → m1 t i x = m t i x) ∧ (∀ x, e ≤ x → x < e + k → m1 42 0 x = m 42 0 (x + 52)) ∧ (∀ x, x < e → m1 42 0 x = m 42 0 x) := by
      intro k
      induction k with
      | zero => intro e m; exact ⟨m, rfl, fun _ _ _ _ => rfl, fun x h1 h2 => by omega, fun _ _ => rfl⟩
      | succ k ih =>
        intro e m
        obtain ⟨m1, h1, h2, h3, h4⟩ := ih (e + 1) (x_up m 42 0 e (m 42 0 (e + 52)))
        refine ⟨m1, h1, fun t i x ht => by rw [h2 t i x ht, x_up_k (by omega)], fun x hx1 hx2 => ?_, fun x hx => by rw [h4 x (by omega), x_up_k (by omega)]⟩
        by_cases c : x = e
        · subst c
          rw [h4 x (by omega), x_up_y rfl]
        · rw [h3 x (by omega) (by omega), x_up_k (by omega)]
    obtain ⟨m2, k1, k2, k3, k4⟩ := key (k + 1) e m
    exact ⟨m2, k1, k2, k3⟩
theorem nt_all {m : xMi} {u : Nat} (hu : u ≤ 8) (h : m 24 0 29 = (u : Int)) : rA (S_X7_notes m u) = rA m ∧ rF (S_X7_notes m u) = rF m ∧ S_X7_notes m u 24 0 29 = ((if u = 8 then 8 else u + 1 : Nat) : Int) ∧ sA 42 (S_X7_notes m u) (52 * ((if u = 8 then 8 else u + 1) - 1)) = rA m ∧ (∀ i, i + 1 < (if u = 8 then 8 else u + 1) → sA 42 (S_X7_notes m u) (52 * ((if u = 8 then 8 else u + 1) - 1 - (i + 1))) = sA 42 m (52 * (u - 1 - i))) := by
  have f1 : rA (S_X7_notes m u) = rA m := by
    funext j q; unfold rA
    split
    · exact fr_S_X7_notes m u (by omega)
    · split
      · exact fr_S_X7_notes m u (by omega)
      · rfl
  have f2 : rF (S_X7_notes m u) = rF m := by
    funext j q; unfold rF
    split
    · exact fr_S_X7_notes m u (by omega)
    · rfl
  refine ⟨f1, f2, ?_⟩
  by_cases c : u = 8
  · subst c
    have e : S_X7_notes m 8 = RS_X7_notes_11 8 364 0 m := by
      unfold S_X7_notes
      rw [h, if_pos (by decide)]
    obtain ⟨m1, k1, k2, k3⟩ := nt_11 8 364 0 m
    have l := ly_42 (x_up m1 24 0 29 ((m1 24 0 29) - 1)) (52 * 7)
    have g : S_X7_lays_42 (x_up m1 24 0 29 (m1 24 0 29 - 1)) (52 * 7) 24 0 29 = 7 := by
      rw [fr_S_X7_lays_42 _ _ (by omega), x_up_y rfl, k2 24 0 29 (by omega), h]; rfl
    rw [e, k1, g]
    simp only [if_true]
    refine ⟨by rw [x_up_y rfl]; rfl, ?_, fun i hi => ?_⟩
    · rw [sA_cong (m := S_X7_lays_42 (x_up m1 24 0 29 (m1 24 0 29 - 1)) (52 * 7)) (fun k _ _ => x_up_k (by omega))]
      rw [(by omega : 52 * (8 - 1) = 52 * 7), l.1]
      funext j q
      unfold rA
      split
      · rw [x_up_k (by omega), k2 _ _ _ (by omega)]
      · split
        · rw [x_up_k (by omega), k2 _ _ _ (by omega)]
        · rfl
    · have c1 : sA 42 (x_up (S_X7_lays_42 (x_up m1 24 0 29 (m1 24 0 29 - 1)) (52 * 7)) 24 0 29 (7 + 1)) (52 * (8 - 1 - (i + 1))) = sA 42 m1 (52 * (8 - 1 - (i + 1))) := sA_cong (fun k h1 h2 => by rw [x_up_k (by omega), l.2 k (by omega), x_up_k (by omega)])
      rw [c1]
      funext j q
      unfold sA
      split
      · rw [k3 _ (by omega) (by omega)]
        congr 1
        omega
      · split
        · rw [k3 _ (by omega) (by split <;> omega)]
          congr 1
          omega
        · rfl
  · have e : S_X7_notes m u = x_up (S_X7_lays_42 m (52 * u)) 24 0 29 (((S_X7_lays_42 m (52 * u)) 24 0 29) + 1) := by
      unfold S_X7_notes
      rw [h, xw8, x_wrs (a := (u : Int)) (by omega) (by omega), if_neg (by omega)]
    have l := ly_42 m (52 * u)
    rw [e, fr_S_X7_lays_42 m _ (by omega), h]
    simp only [if_neg c]
    refine ⟨by rw [x_up_y rfl]; omega, ?_, fun i hi => ?_⟩
    · rw [sA_cong (m := S_X7_lays_42 m (52 * u)) (fun k _ _ => x_up_k (by omega)), (by omega : 52 * (u + 1 - 1) = 52 * u), l.1]
    · rw [(by omega : u + 1 - 1 - (i + 1) = u - 1 - i)]
      exact sA_cong (fun k h1 h2 => by rw [x_up_k (by omega), l.2 k (by omega)])
