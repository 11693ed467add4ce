def Fu (j : Nat) (F : aS) (p : Nat) (e : Int) : aS := fun j' q => if j' = j ∧ q = p then e else F j' q
theorem Fu_Fu (j : Nat) (F : aS) (p : Nat) (e e' : Int) : Fu j (Fu j F p e) p e' = Fu j F p e' := by
  funext j' q; unfold Fu; split <;> simp_all
theorem Fu_id (j : Nat) (F : aS) (p : Nat) (e : Int) : Fu j (Fu j F p e) p (F j p) = F := by
  funext j' q; unfold Fu
  by_cases c : j' = j ∧ q = p
  · rw [if_pos c, c.1, c.2]
  · rw [if_neg c, if_neg c]
theorem Fu_self (j : Nat) (F : aS) (p : Nat) : Fu j F p (F j p) = F := by
  funext j' q; unfold Fu
  by_cases c : j' = j ∧ q = p
  · rw [if_pos c, c.1, c.2]
  · rw [if_neg c]
theorem Fu_F {j K p : Nat} {F : aS} {e : Int} (hF : aF K F) (hj : (j = 0 ∧ 0 ≤ e ∧ e ≤ 3) ∨ (j = 2 ∧ 0 ≤ e ∧ e ≤ 40)) : aF K (Fu j F p e) := by
  intro q hq
  have h := hF q hq
  unfold Fu
  rcases hj with ⟨rfl, h1⟩ | ⟨rfl, h1⟩
  · by_cases c : q = p
    · subst c; simp; omega
    · simp [c]; omega
  · by_cases c : q = p
    · subst c; simp; omega
    · simp [c]; omega
theorem rF_up {m : xMi} {j p : Nat} {e : Int} (hj : j < 4) : rF (x_up m (25 + j) 0 p e) = Fu j (rF m) p e := by
  funext j' q
  show (if j' < 4 then x_up m (25 + j) 0 p e (25 + j') 0 q else 0) = (if j' = j ∧ q = p then e else (if j' < 4 then m (25 + j') 0 q else 0))
  by_cases c : j' = j ∧ q = p
  · rw [if_pos c, if_pos (by omega), c.1, c.2, x_up_y rfl]
  · rw [if_neg c]
    by_cases d : j' < 4
    · rw [if_pos d, if_pos d, x_up_k (by omega)]
    · rw [if_neg d, if_neg d]
theorem rA_up {m : xMi} {t p : Nat} {e : Int} (ht : 25 ≤ t ∧ t < 29) : rA (x_up m t 0 p e) = rA m := by
  funext j q; unfold rA
  split
  · exact x_up_k (by omega)
  · split
    · exact x_up_k (by omega)
    · rfl
theorem cR_up {s : xMi} {r j K p : Nat} {F : aS} {e : Int} (hj : j < 4) (h : cR r s K F) : cR r (x_up s (6 + j) r p e) K (Fu j F p e) := by
  intro q hq
  obtain ⟨h0, h1, h2, h3⟩ := h q hq
  have f : ∀ i, i < 4 → s (6 + i) r q = F i q → x_up s (6 + j) r p e (6 + i) r q = Fu j F p e i q := by
    intro i hi hs
    unfold Fu
    by_cases c : i = j ∧ q = p
    · rw [if_pos c, c.1, c.2, x_up_y rfl]
    · rw [if_neg c, x_up_k (by omega)]; exact hs
  exact ⟨f 0 (by omega) h0, f 1 (by omega) h1, f 2 (by omega) h2, f 3 (by omega) h3⟩
/-- what the loops over guesses keep -/
def gI (j K z : Nat) (a F : aS) (p : Nat) (s m : xMi) : Prop := zS K z s m ∧ cF 0 s K a ∧ rA m = a ∧ ∃ e, cR 2 s K (Fu j F p e) ∧ ∃ e', rF m = Fu j F p e'
theorem gI.step {j K z : Nat} {a F : aS} {p : Nat} {s m : xMi} {e : Int} (h : gI j K z a F p s m) (hj : (j = 0 ∧ 0 ≤ e ∧ e ≤ 3) ∨ (j = 2 ∧ 0 ≤ e ∧ e ≤ 40)) (hK : K ≤ 6) (hF : aF K F) (hW : aW K 999 a) :
    V_X6_guessFits (x_up s (6 + j) 2 p e) K z = V_X7_isSo (x_up m (25 + j) 0 p e) K z ∧ (V_X7_isSo (x_up m (25 + j) 0 p e) K z = 0 ∨ V_X7_isSo (x_up m (25 + j) 0 p e) K z = 1) ∧ bk (x_up m (25 + j) 0 p e) (S_X7_isSo (x_up m (25 + j) 0 p e) K z) ∧ gI j K z a F p (S_X6_guessFits (x_up s (6 + j) 2 p e) K z) (S_X7_isSo (x_up m (25 + j) 0 p e) K z) := by
  obtain ⟨hZ, hC, hA, e0, hR, e1, hFm⟩ := h
  have hj4 : j < 4 := by omega
  have hZ' : zS K z (x_up s (6 + j) 2 p e) (x_up m (25 + j) 0 p e) := hZ.same (fun t k h1 h2 => x_up_k (by omega)) (fun t k h1 h2 => x_up_k (by omega))
  have hA' : rA (x_up m (25 + j) 0 p e) = a := (rA_up (by omega)).trans hA
  have hF' : rF (x_up m (25 + j) 0 p e) = Fu j F p e := by rw [rF_up hj4, hFm, Fu_Fu]
  have hR' : cR 2 (x_up s (6 + j) 2 p e) K (Fu j F p e) := by have := cR_up (p := p) (e := e) hj4 hR; rw [Fu_Fu] at this; exact this
  have hC' : cF 0 (x_up s (6 + j) 2 p e) K a := hC.same (fun t ht k => x_up_k (by omega))
  obtain ⟨g1, g2, g3⟩ := guess (F := Fu j F p e) (D := 999) hK (Fu_F hF hj) (by decide) hZ' (by rw [hA']; exact hC') hR' hF' (by rw [hA']; exact hW)
  refine ⟨g1, g2, g3, ?_, ?_, g3.1.1.trans hA', e, ?_, e, g3.1.2.1.trans hF'⟩
  · exact hZ'.same (fun t k h1 h2 => fr_S_X6_guessFits _ K z (by omega)) (fun t k h1 h2 => g3.2 _ _ _ (by omega) (by omega))
  · exact hC'.same (fun t ht k => fr_S_X6_guessFits _ K z (by omega))
  · exact hR'.same (fun t h1 h2 k => fr_S_X6_guessFits _ K z (by omega))
/-- the reference's memory through such a loop: all is the same but one row's one number -/
def bj (t0 p : Nat) (m m' : xMi) : Prop := rA m' = rA m ∧ ∀ t i k, t ≠ 43 → ¬ ((t = 24 ∧ 5 ≤ k ∧ k ≤ 8) ∨ (29 ≤ t ∧ t ≤ 36)) → ¬ (t = t0 ∧ i = 0 ∧ k = p) → m' t i k = m t i k
theorem bj.tr {t0 p : Nat} {m m' m2 : xMi} (h : bj t0 p m m') (h2 : bj t0 p m' m2) : bj t0 p m m2 := ⟨h2.1.trans h.1, fun t i k a b c => (h2.2 t i k a b c).trans (h.2 t i k a b c)⟩
theorem bj.step {j p : Nat} {m m' : xMi} {e : Int} (hj : j < 4) (h : bk (x_up m (25 + j) 0 p e) m') : bj (25 + j) p m m' := ⟨h.1.1.trans (rA_up (by omega)), fun t i k a b c => by rw [h.2 t i k a b, x_up_k (by omega)]⟩
theorem bj.last {j p : Nat} {m m' : xMi} {e : Int} (hj : j < 4) (h : bj (25 + j) p m m') (he : e = m (25 + j) 0 p) : bk m (x_up m' (25 + j) 0 p e) := by
  have f : ∀ t i k, t ≠ 43 → ¬ ((t = 24 ∧ 5 ≤ k ∧ k ≤ 8) ∨ (29 ≤ t ∧ t ≤ 36)) → x_up m' (25 + j) 0 p e t i k = m t i k := by
    intro t i k a b
    by_cases c : t = 25 + j ∧ i = 0 ∧ k = p
    · obtain ⟨rfl, rfl, rfl⟩ := c
      rw [x_up_y rfl, he]
    · rw [x_up_k c]; exact h.2 t i k a b c
  refine ⟨⟨(rA_up (by omega)).trans h.1, ?_, f _ _ _ (by omega) (by omega), f _ _ _ (by omega) (by omega), f _ _ _ (by omega) (by omega), f _ _ _ (by omega) (by omega), f _ _ _ (by omega) (by omega), fun t k z => f _ _ _ (by omega) (by omega)⟩, f⟩
  funext j' q; unfold rF; split
  · exact f _ _ _ (by omega) (by omega)
  · rfl
theorem kinds_loop {K z : Nat} {p1 : Int} {a F : aS} (hK : K ≤ 6) (hF : aF K F) (hW : aW K 999 a) : ∀ (k e : Nat) (s m : xMi) (c : Nat) (o1 : Int), e + k ≤ 4 → c < 64 → gI 0 K z a F p1.toNat s m → RV_X6_kinds_25 p1 K z k e s (c : Int) = RV_X7_kinds_22 p1 K z k e m (c : Int) o1 ∧ ∃ m', RS_X7_kinds_22 p1 K z k e m (c : Int) o1 = x_up m' 25 0 p1.toNat o1 ∧ bj 25 p1.toNat m m' := by
  intro k
  induction k with
  | zero => intro e s m c o1 _ _ _; exact ⟨rfl, m, rfl, rfl, fun _ _ _ _ _ _ => rfl⟩
  | succ k ih =>
    intro e s m c o1 he hc hI
    obtain ⟨g1, g2, g3, g4⟩ := hI.step (e := (e : Int)) (Or.inl ⟨rfl, by omega, by omega⟩) hK hF hW
    simp only [Nat.add_zero] at g1 g2 g3 g4
    have b := bj.step (j := 0) (p := p1.toNat) (m := m) (e := (e : Int)) (by omega) g3
    unfold RV_X6_kinds_25 RV_X7_kinds_22 RS_X7_kinds_22
    rw [g1, bt_or0 c hc]
    rcases g2 with y | y
    · rw [y, xw0, if_pos rfl, if_pos rfl, if_pos rfl]
      obtain ⟨i1, m', i2, i3⟩ := ih (e + 1) _ _ c o1 (by omega) hc g4
      exact ⟨i1, m', i2, b.tr i3⟩
    · have n10 : ¬ (1 : Int) = 0 := by decide
      rw [y, xw1, if_neg n10, if_neg n10, if_neg n10]
      obtain ⟨k1, k2⟩ := bt_or c hc e (by omega)
      rw [k1]
      obtain ⟨i1, m', i2, i3⟩ := ih (e + 1) _ _ (c ||| 2 ^ e) o1 (by omega) k2 g4
      exact ⟨i1, m', i2, b.tr i3⟩
theorem days_loop {K z : Nat} {p1 w1 : Int} {a F : aS} (hK : K ≤ 6) (hF : aF K F) (hW : aW K 999 a) : ∀ (k : Nat) (s m : xMi) (c b2 o1 : Int), k ≤ 41 → gI 2 K z a F p1.toNat s m → RV_X6_days_40 p1 w1 K z k s c b2 = RV_X7_days_37 p1 w1 K z k m c b2 o1 ∧ ∃ m', RS_X7_days_37 p1 w1 K z k m c b2 o1 = x_up m' 27 0 p1.toNat o1 ∧ bj 27 p1.toNat m m' := by
  intro k
  induction k with
  | zero =>
    intro s m c b2 o1 _ _
    refine ⟨rfl, m, ?_, rfl, fun _ _ _ _ _ _ => rfl⟩
    unfold RS_X7_days_37
    split <;> rfl
  | succ k ih =>
    intro s m c b2 o1 hk hI
    obtain ⟨g1, g2, g3, g4⟩ := hI.step (e := (k : Int)) (Or.inr ⟨rfl, by omega, by omega⟩) hK hF hW
    have b := bj.step (j := 2) (p := p1.toNat) (m := m) (e := (k : Int)) (by omega) g3
    unfold RV_X6_days_40 RV_X7_days_37 RS_X7_days_37
    simp only [Nat.reduceAdd] at g1 g2 g3 g4 b
    rw [g1]
    rcases g2 with y | y
    · rw [y, xw0, if_pos rfl, if_pos rfl, if_pos rfl, if_pos rfl, if_pos rfl, Int.add_zero]
      obtain ⟨i1, m', i2, i3⟩ := ih _ _ c b2 o1 (by omega) g4
      exact ⟨i1, m', i2, b.tr i3⟩
    · have n10 : ¬ (1 : Int) = 0 := by decide
      rw [y, xw1, if_neg n10, if_neg n10, if_neg n10, if_neg n10, if_neg n10]
      obtain ⟨i1, m', i2, i3⟩ := ih _ _ (c + 1) (k : Int) o1 (by omega) g4
      exact ⟨i1, m', i2, b.tr i3⟩
theorem kinds_s {K z : Nat} {p1 : Int} : ∀ (k e : Nat) (s : xMi) (c : Int), sC s (RS_X6_kinds_25 p1 K z k e s c) ∧ eM s (RS_X6_kinds_25 p1 K z k e s c) := by
  intro k
  induction k with
  | zero => intro e s c; exact ⟨sC.rf s, fun _ _ _ _ => rfl⟩
  | succ k ih =>
    intro e s c
    have h1 : sC s (S_X6_guessFits (x_up s 6 2 (p1.toNat) (e : Int)) K z) := fun t i k a b c d e f g => by rw [fr_S_X6_guessFits _ K z (by omega), x_up_k (by omega)]
    have h2 : eM s (S_X6_guessFits (x_up s 6 2 (p1.toNat) (e : Int)) K z) := fun t i k ht => by rw [fr_S_X6_guessFits _ K z (by omega), x_up_k (by omega)]
    unfold RS_X6_kinds_25
    split
    · have h := ih (e + 1) (S_X6_guessFits (x_up s 6 2 (p1.toNat) (e : Int)) K z) c
      exact ⟨h1.tr h.1, h2.tr h.2⟩
    · have h := ih (e + 1) (S_X6_guessFits (x_up s 6 2 (p1.toNat) (e : Int)) K z) (x_or c (x_shl 1 (e : Int)))
      exact ⟨h1.tr h.1, h2.tr h.2⟩
theorem days_s {K z : Nat} {p1 w1 : Int} : ∀ (k : Nat) (s : xMi) (c b2 : Int), sC s (RS_X6_days_40 p1 w1 K z k s c b2) ∧ eM s (RS_X6_days_40 p1 w1 K z k s c b2) := by
  intro k
  induction k with
  | zero =>
    intro s c b2
    have e : RS_X6_days_40 p1 w1 K z 0 s c b2 = s := by unfold RS_X6_days_40; split <;> rfl
    rw [e]; exact ⟨sC.rf s, fun _ _ _ _ => rfl⟩
  | succ k ih =>
    intro s c b2
    have h1 : sC s (S_X6_guessFits (x_up s 8 2 (p1.toNat) (k : Int)) K z) := fun t i k a b c d e f g => by rw [fr_S_X6_guessFits _ K z (by omega), x_up_k (by omega)]
    have h2 : eM s (S_X6_guessFits (x_up s 8 2 (p1.toNat) (k : Int)) K z) := fun t i k ht => by rw [fr_S_X6_guessFits _ K z (by omega), x_up_k (by omega)]
    unfold RS_X6_days_40
    split
    · have h := ih (S_X6_guessFits (x_up s 8 2 (p1.toNat) (k : Int)) K z) c b2
      exact ⟨h1.tr h.1, h2.tr h.2⟩
    · have h := ih (S_X6_guessFits (x_up s 8 2 (p1.toNat) (k : Int)) K z) (c + 1) (k : Int)
      exact ⟨h1.tr h.1, h2.tr h.2⟩
theorem roll_copy {s : xMi} {K r q : Nat} {F : aS} (hK : K ≤ 6) (hrq : q ≠ r) (h : cR q s K F) : cR r (S_X3_copyFrom s r q) K F := by
  intro p hp
  obtain ⟨h0, h1, h2, h3⟩ := h p hp
  have hp6 : p < 6 := by omega
  exact ⟨by simpa [S_X3_copyFrom, T_X3_copyFrom_1, x_up, x_cp, hrq, hp6] using h0, by simpa [S_X3_copyFrom, T_X3_copyFrom_1, x_up, x_cp, hrq, hp6] using h1, by simpa [S_X3_copyFrom, T_X3_copyFrom_1, x_up, x_cp, hrq, hp6] using h2, by simpa [S_X3_copyFrom, T_X3_copyFrom_1, x_up, x_cp, hrq, hp6] using h3⟩
theorem gI0 {K u τ v τ1 z w : Nat} {σ s' : xMi} (h : Rl K u τ v τ1 z w σ σ) (hM : eM σ s') (j p : Nat) : gI j K z (rA σ) (rF σ) p (S_X3_copyFrom σ 2 0) s' := by
  obtain ⟨hk, hg0, hU, hV, hZ, hT, hO⟩ := id h
  refine ⟨⟨hZ.1, fun k hkz => ?_⟩, hg0.1.same (fun t ht k => fr_S_X3_copyFrom _ _ _ (by omega)), hM.R.1, rF σ j p, ?_, rF σ j p, ?_⟩
  · have q := hZ.2.2.2.1 k hkz
    rw [fr_S_X3_copyFrom _ _ _ (by omega), fr_S_X3_copyFrom _ _ _ (by omega), fr_S_X3_copyFrom _ _ _ (by omega), hM _ _ _ (by omega), hM _ _ _ (by omega), hM _ _ _ (by omega)]
    have q2 := hZ.2.2.2.2.1 k
    have q3 := hZ.2.2.2.2.2.2 k
    exact ⟨q.1, q.2.1, q.2.2.1, q.2.2.2.1, ⟨q3.1, q.2.2.2.2⟩, by rw [← q.1]; exact q2⟩
  · rw [Fu_self]; exact roll_copy hk.2.1 (by omega) hk.2.2.2.2.1
  · rw [Fu_self]; exact hM.R.2.1
theorem rc_s {s : xMi} : sC s (S_X3_copyFrom s 2 0) ∧ eM s (S_X3_copyFrom s 2 0) := ⟨fun t i k a b c d e f g => fr_S_X3_copyFrom _ _ _ (by omega), fun t i k ht => fr_S_X3_copyFrom _ _ _ (by omega)⟩
theorem m_kinds {K u τ v τ1 z w : Nat} {σ : xMi} (h : Rl K u τ v τ1 z w σ σ) {p1 : Int} (hw : x_wr p1 = p1) : V_X6_kinds σ p1 K z = V_X7_kinds (S_X6_kinds σ p1 K z) p1 K z ∧ RR (S_X7_kinds (S_X6_kinds σ p1 K z) p1 K z) := by
  obtain ⟨hk, hg0, hU, hV, hZ, hT, hO⟩ := id h
  have hK := hk.2.1
  have e1 := v_isPerson (σ := σ) hw hK hk.2.2.1
  unfold V_X6_kinds S_X6_kinds
  by_cases c : 0 ≤ p1 ∧ p1 < K
  · have n1 : ¬ x_wr (V_X6_isPerson σ p1) = 0 := by rw [e1, i01]; exact fun z => z c
    rw [if_neg n1, if_neg n1]
    have hs := kinds_s (K := K) (z := z) (p1 := p1) 4 0 (S_X3_copyFrom σ 2 0) 0
    have hM : eM σ (RS_X6_kinds_25 p1 K z 4 0 (S_X3_copyFrom σ 2 0) 0) := rc_s.2.tr hs.2
    have hCC : sC σ (RS_X6_kinds_25 p1 K z 4 0 (S_X3_copyFrom σ 2 0) 0) := rc_s.1.tr hs.1
    generalize RS_X6_kinds_25 p1 K z 4 0 (S_X3_copyFrom σ 2 0) 0 = S at *
    have n3 : ¬ x_wr (V_X7_isOne S p1) = 0 := by rw [v_isOne hw hK (by rw [hM _ _ _ (by omega)]; exact hk.2.2.2.1), i01]; exact fun z => z c
    unfold V_X7_kinds S_X7_kinds
    rw [if_neg n3, if_neg n3]
    obtain ⟨l1, m', l2, l3⟩ := kinds_loop (p1 := p1) hK hk.2.2.2.2.2 hg0.2.1 4 0 (S_X3_copyFrom σ 2 0) S 0 (S 25 0 p1.toNat) (by omega) (by omega) (gI0 h hM 0 p1.toNat)
    refine ⟨l1, ?_⟩
    have l2' : RS_X7_kinds_22 p1 K z 4 0 S 0 (S 25 0 p1.toNat) = x_up m' 25 0 p1.toNat (S 25 0 p1.toNat) := l2
    rw [l2']
    exact h.bk hM hCC (bj.last (j := 0) (by omega) l3 rfl)
  · have n1 : x_wr (V_X6_isPerson σ p1) = 0 := by rw [e1, i01]; exact c
    have n3 : x_wr (V_X7_isOne σ p1) = 0 := by rw [v_isOne hw hK hk.2.2.2.1, i01]; exact c
    rw [if_pos n1, if_pos n1]
    unfold V_X7_kinds S_X7_kinds
    rw [if_pos n3, if_pos n3]
    exact ⟨rfl, _, _, _, _, _, _, _, h⟩
theorem m_days {K u τ v τ1 z w : Nat} {σ : xMi} (h : Rl K u τ v τ1 z w σ σ) {p1 w1 : Int} (hw : x_wr p1 = p1) (hw1 : x_wr w1 = w1) : V_X6_days σ p1 w1 K z = V_X7_days (S_X6_days σ p1 w1 K z) p1 w1 K z ∧ RR (S_X7_days (S_X6_days σ p1 w1 K z) p1 w1 K z) := by
  obtain ⟨hk, hg0, hU, hV, hZ, hT, hO⟩ := id h
  have hK := hk.2.1
  have e1 := v_isPerson (σ := σ) hw hK hk.2.2.1
  unfold V_X6_days S_X6_days
  rw [hw1, xw1]
  by_cases c : 0 ≤ p1 ∧ p1 < K
  · have n1 : ¬ x_wr (V_X6_isPerson σ p1) = 0 := by rw [e1, i01]; exact fun z => z c
    rw [if_neg n1, if_neg n1]
    by_cases d : 0 ≤ w1 ∧ w1 ≤ 1
    · have d0 : ¬ w1 < 0 := by omega
      rw [if_neg d0, if_neg d0, if_pos d.2, if_pos d.2]
      have hs := days_s (K := K) (z := z) (p1 := p1) (w1 := w1) 41 (S_X3_copyFrom σ 2 0) 0 (-4)
      have hM : eM σ (RS_X6_days_40 p1 w1 K z 41 (S_X3_copyFrom σ 2 0) 0 (-4)) := rc_s.2.tr hs.2
      have hCC : sC σ (RS_X6_days_40 p1 w1 K z 41 (S_X3_copyFrom σ 2 0) 0 (-4)) := rc_s.1.tr hs.1
      generalize RS_X6_days_40 p1 w1 K z 41 (S_X3_copyFrom σ 2 0) 0 (-4) = S at *
      have n3 : ¬ x_wr (V_X7_isOne S p1) = 0 := by rw [v_isOne hw hK (by rw [hM _ _ _ (by omega)]; exact hk.2.2.2.1), i01]; exact fun z => z c
      have n4 : ¬ x_wr (V_X7_in S w1 0 1) = 0 := by rw [v_in hw1 (by omega) (by omega), i01]; exact fun z => z d
      unfold V_X7_days S_X7_days
      rw [if_neg n3, if_neg n3, if_neg n4, if_neg n4]
      obtain ⟨l1, m', l2, l3⟩ := days_loop (p1 := p1) (w1 := w1) hK hk.2.2.2.2.2 hg0.2.1 41 (S_X3_copyFrom σ 2 0) S 0 (-4) (S 27 0 p1.toNat) (by omega) (gI0 h hM 2 p1.toNat)
      refine ⟨l1, ?_⟩
      rw [l2]
      exact h.bk hM hCC (bj.last (j := 2) (by omega) l3 rfl)
    · have n3 : ¬ x_wr (V_X7_isOne σ p1) = 0 := by rw [v_isOne hw hK hk.2.2.2.1, i01]; exact fun z => z c
      have n4 : x_wr (V_X7_in σ w1 0 1) = 0 := by rw [v_in hw1 (by omega) (by omega), i01]; exact d
      have eS : (if w1 < 0 then σ else if w1 ≤ 1 then RS_X6_days_40 p1 w1 K z 41 (S_X3_copyFrom σ 2 0) 0 (-4) else σ) = σ := by
        by_cases d1 : w1 < 0
        · rw [if_pos d1]
        · rw [if_neg d1, if_neg (by omega)]
      have eV : (if w1 < 0 then -1 else if w1 ≤ 1 then RV_X6_days_40 p1 w1 K z 41 (S_X3_copyFrom σ 2 0) 0 (-4) else -1) = -1 := by
        by_cases d1 : w1 < 0
        · rw [if_pos d1]
        · rw [if_neg d1, if_neg (by omega)]
      rw [eS, eV]
      unfold V_X7_days S_X7_days
      rw [if_neg n3, if_neg n3, if_pos n4, if_pos n4]
      exact ⟨rfl, _, _, _, _, _, _, _, h⟩
  · have n1 : x_wr (V_X6_isPerson σ p1) = 0 := by rw [e1, i01]; exact c
    have n3 : x_wr (V_X7_isOne σ p1) = 0 := by rw [v_isOne hw hK hk.2.2.2.1, i01]; exact c
    rw [if_pos n1, if_pos n1]
    unfold V_X7_days S_X7_days
    rw [if_pos n3, if_pos n3]
    exact ⟨rfl, _, _, _, _, _, _, _, h⟩
