/-! what was seen -/
def hdR (m : xMi) (p k : Nat) (n : Int) (a : aS) : Prop := ∀ i, p ≤ i → i < p + k → m 37 0 i = n → (a 3 (m 38 0 i).toNat ≠ -4 ↔ m 39 0 i = 1)
def hdA (F : aS) (K : Nat) (m : xMi) (z : Nat) : Nat → Nat → aS → Prop
  | 0, _, _ => True
  | k + 1, e, a => hdR m 0 z (e : Int) a ∧ hdA F K m z k (e + 1) (aP F 0 K a)
/-- the sights of both -/
def zS (K z : Nat) (s m : xMi) : Prop := z ≤ 6 ∧ ∀ k, k < z → s 16 0 k = m 37 0 k ∧ s 17 0 k = m 38 0 k ∧ s 18 0 k = m 39 0 k ∧ (m 39 0 k = 0 ∨ m 39 0 k = 1) ∧ (0 ≤ m 38 0 k ∧ m 38 0 k < K) ∧ (0 ≤ m 37 0 k ∧ m 37 0 k ≤ 40)
theorem hdR_succ {m : xMi} {p k : Nat} {n : Int} {a : aS} : hdR m p (k + 1) n a ↔ (m 37 0 p = n → (a 3 (m 38 0 p).toNat ≠ -4 ↔ m 39 0 p = 1)) ∧ hdR m (p + 1) k n a := by
  constructor
  · intro h
    exact ⟨h p (by omega) (by omega), fun i h1 h2 => h i (by omega) (by omega)⟩
  · rintro ⟨h1, h2⟩ i h3 h4
    by_cases c : i = p
    · subst c; exact h1
    · exact h2 i (by omega) (by omega)
theorem hdR_z {m : xMi} {p : Nat} {n : Int} {a : aS} : hdR m p 0 n a := fun i h1 h2 => by omega
theorem c_hold {f K z : Nat} {s m : xMi} {a : aS} {n1 : Int} (hZ : zS K z s m) (hn : x_wr n1 = n1) (hC : cF f s K a) (hT : aTt K a) : ∀ (k p : Nat), p + k ≤ z → RV_X4_holdAfter_2 n1 f z k p s = 1 ∧ hdR m p k n1 a ∨ RV_X4_holdAfter_2 n1 f z k p s = 0 ∧ ¬ hdR m p k n1 a := by
  intro k
  induction k with
  | zero => intro p _; exact Or.inl ⟨rfl, hdR_z⟩
  | succ k ih =>
    intro p hp
    obtain ⟨z1, z2, z3, z4, z5, z6⟩ := hZ.2 p (by omega)
    have hq : (m 38 0 p).toNat < K := by omega
    have ht := c_isTold hC hT.1 (hT.2 _ hq).2.2 hq
    have ih' := ih (p + 1) (by omega)
    unfold RV_X4_holdAfter_2
    rw [z1, z2, z3, hn, ht, hdR_succ, x_wrs (a := m 37 0 p) (by omega) (by omega), x_wrs (a := m 39 0 p) (by omega) (by omega)]
    by_cases c : m 37 0 p = n1
    · rw [if_pos c]
      by_cases d : a 3 (m 38 0 p).toNat = -4
      · rw [if_pos d, xw0]
        by_cases e : (0 : Int) = m 39 0 p
        · rw [if_pos e]
          rcases ih' with ⟨i1, i2⟩ | ⟨i1, i2⟩
          · exact Or.inl ⟨i1, fun _ => ⟨fun y => absurd d y, fun y => by omega⟩, i2⟩
          · exact Or.inr ⟨i1, fun y => i2 y.2⟩
        · rw [if_neg e]
          exact Or.inr ⟨rfl, fun y => ((y.1 c).mpr (by omega)) d⟩
      · rw [if_neg d, xw1]
        by_cases e : (1 : Int) = m 39 0 p
        · rw [if_pos e]
          rcases ih' with ⟨i1, i2⟩ | ⟨i1, i2⟩
          · exact Or.inl ⟨i1, fun _ => ⟨fun y => e.symm, fun y => d⟩, i2⟩
          · exact Or.inr ⟨i1, fun y => i2 y.2⟩
        · rw [if_neg e]
          exact Or.inr ⟨rfl, fun y => e ((y.1 c).mp d).symm⟩
    · rw [if_neg c]
      rcases ih' with ⟨i1, i2⟩ | ⟨i1, i2⟩
      · exact Or.inl ⟨i1, fun y => absurd y c, i2⟩
      · exact Or.inr ⟨i1, fun y => i2 y.2⟩
theorem zS.same {K z : Nat} {s s' m m' : xMi} (h : zS K z s m) (hs : ∀ t k, 16 ≤ t → t ≤ 18 → s' t 0 k = s t 0 k) (hm : ∀ t k, 37 ≤ t → t ≤ 39 → m' t 0 k = m t 0 k) : zS K z s' m' := by
  refine ⟨h.1, fun k hk => ?_⟩
  rw [hs 16 k (by omega) (by omega), hs 17 k (by omega) (by omega), hs 18 k (by omega) (by omega), hm 37 k (by omega) (by omega), hm 38 k (by omega) (by omega), hm 39 k (by omega) (by omega)]
  exact h.2 k hk
theorem hdR_cong {m m' : xMi} {p k : Nat} {n : Int} {a : aS} (hm : ∀ t k, 37 ≤ t → t ≤ 39 → m' t 0 k = m t 0 k) : hdR m' p k n a ↔ hdR m p k n a := by
  unfold hdR
  constructor
  · intro h i h1 h2
    have := h i h1 h2
    rw [hm 37 i (by omega) (by omega), hm 38 i (by omega) (by omega), hm 39 i (by omega) (by omega)] at this
    exact this
  · intro h i h1 h2
    rw [hm 37 i (by omega) (by omega), hm 38 i (by omega) (by omega), hm 39 i (by omega) (by omega)]
    exact h i h1 h2
theorem hdA_cong {F : aS} {K z : Nat} {m m' : xMi} (hm : ∀ t k, 37 ≤ t → t ≤ 39 → m' t 0 k = m t 0 k) : ∀ (k e : Nat) (a : aS), hdA F K m' z k e a ↔ hdA F K m z k e a := by
  intro k
  induction k with
  | zero => intro e a; exact Iff.rfl
  | succ k ih => intro e a; unfold hdA; rw [hdR_cong hm, ih]
theorem c_allHold31 {f K z : Nat} {F : aS} {m : xMi} (hK : K ≤ 6) (hF : aF K F) : ∀ (k e : Nat) (s : xMi) (a : aS) (c D : Int), D + k ≤ 100000 → e + k ≤ 1000 → zS K z s m → cF f s K a → cR (x_rof f) s K F → aW K D a → (RV_X4_allHold_31 f K z k e s c = 1 ∧ hdA F K m z k e a ∨ RV_X4_allHold_31 f K z k e s c = 0 ∧ ¬ hdA F K m z k e a) := by
  intro k
  induction k with
  | zero => intro e s a c D _ _ _ _ _ _; exact Or.inl ⟨rfl, trivial⟩
  | succ k ih =>
    intro e s a c D hD he hZ hC hR hW
    have h1 := c_hold (n1 := (e : Int)) hZ (x_wrs (by omega) (by omega)) hC (hW.tt (by omega)) z 0 (by omega)
    have ih' := ih (e + 1) (S_X0_passDay s f 0 K) (aP F 0 K a) c (D + 1) (by omega) (by omega) (hZ.same (fun t j h1 h2 => fr_S_X0_passDay s f 0 K (by omega)) (fun _ _ _ _ => rfl)) (cF_passDay hK xw0 (by omega) hF hC hR hW) (hR.same (fun t h1 h2 j => fr_S_X0_passDay s f 0 K (by omega))) (aP_W hW)
    unfold RV_X4_allHold_31 hdA V_X4_holdAfter
    rcases h1 with ⟨q1, q2⟩ | ⟨q1, q2⟩
    · rw [q1, xw1, if_neg (by decide)]
      rcases ih' with ⟨i1, i2⟩ | ⟨i1, i2⟩
      · exact Or.inl ⟨i1, q2, i2⟩
      · exact Or.inr ⟨i1, fun y => i2 y.2⟩
    · rw [q1, xw0, if_pos rfl]
      exact Or.inr ⟨rfl, fun y => q2 y.1⟩
theorem hdA_vac {F : aS} {K z : Nat} {m : xMi} : ∀ (k e : Nat) (a : aS), (∀ i, i < z → m 37 0 i < (e : Int)) → hdA F K m z k e a := by
  intro k
  induction k with
  | zero => intro e a _; trivial
  | succ k ih =>
    intro e a h
    exact ⟨fun i h1 h2 h3 => absurd h3 (by have := h i (by omega); omega), ih (e + 1) _ (fun i hi => by have := h i hi; omega)⟩
theorem hdA_more {F : aS} {K z : Nat} {m : xMi} : ∀ (k k2 e : Nat) (a : aS), (∀ i, i < z → m 37 0 i < ((e + k : Nat) : Int)) → (hdA F K m z (k + k2) e a ↔ hdA F K m z k e a) := by
  intro k
  induction k with
  | zero => intro k2 e a h; exact ⟨fun _ => trivial, fun _ => hdA_vac _ _ _ (by simpa using h)⟩
  | succ k ih =>
    intro k2 e a h
    rw [(by omega : k + 1 + k2 = (k + k2) + 1)]
    have := ih k2 (e + 1) (aP F 0 K a) (fun i hi => by have := h i hi; omega)
    show _ ∧ _ ↔ _ ∧ _
    rw [this]
theorem c_allHold {f K z : Nat} {F : aS} {s m : xMi} {a : aS} {D : Int} (hK : K ≤ 6) (hF : aF K F) (hD : D + 50 ≤ 100000) (hZ : zS K z s m) (hC : cF f s K a) (hR : cR (x_rof f) s K F) (hW : aW K D a) : V_X4_allHold s f K z = 1 ∧ hdA F K m z 41 0 a ∨ V_X4_allHold s f K z = 0 ∧ ¬ hdA F K m z 41 0 a := by
  have key : ∀ (k p : Nat) (c : Int), p + k ≤ z → 0 ≤ c → c ≤ 40 → (∀ i, i < p → m 37 0 i ≤ c) → ∃ l : Nat, l ≤ 40 ∧ RV_X4_allHold_4 f K z k p s c = RV_X4_allHold_31 f K z (l + 1) 0 s (l : Int) ∧ ∀ i, i < p + k → m 37 0 i ≤ (l : Int) := by
    intro k
    induction k with
    | zero =>
      intro p c hp h0 h4 hi
      refine ⟨c.toNat, by omega, ?_, fun i hi' => by have := hi i hi'; omega⟩
      have e : ((c.toNat : Nat) : Int) = c := by omega
      unfold RV_X4_allHold_4
      rw [e]
    | succ k ih =>
      intro p c hp h0 h4 hi
      obtain ⟨z1, z2, z3, z4, z5, z6⟩ := hZ.2 p (by omega)
      have em : x_max c (s 16 0 p) = if c < m 37 0 p then m 37 0 p else c := by
        unfold x_max
        rw [z1, x_wrs (a := c) (by omega) (by omega), x_wrs (a := m 37 0 p) (by omega) (by omega)]
      obtain ⟨l, l1, l2, l3⟩ := ih (p + 1) (if c < m 37 0 p then m 37 0 p else c) (by omega) (by split <;> omega) (by split <;> omega) (fun i hi' => by
        by_cases d : i = p
        · subst d; split <;> omega
        · have := hi i (by omega); split <;> omega)
      refine ⟨l, l1, ?_, fun i hi' => l3 i (by omega)⟩
      unfold RV_X4_allHold_4
      rw [em]
      exact l2
  obtain ⟨l, l1, l2, l3⟩ := key z 0 0 (by omega) (by omega) (by omega) (fun i hi => by omega)
  have h := c_allHold31 (f := f) (z := z) (m := m) hK hF (l + 1) 0 s a (l : Int) D (by omega) (by omega) hZ hC hR hW
  have hm := hdA_more (F := F) (K := K) (z := z) (m := m) (l + 1) (41 - (l + 1)) 0 a (fun i hi => by have := l3 i (by omega); omega)
  rw [(by omega : l + 1 + (41 - (l + 1)) = 41)] at hm
  unfold V_X4_allHold
  rw [l2, hm]
  exact h
theorem r_isSo {K z : Nat} {F : aS} {m0 : xMi} (hK : K ≤ 6) (hz : z ≤ 6) (hF : aF K F) (h39 : ∀ k, k < z → (m0 39 0 k = 0 ∨ m0 39 0 k = 1) ∧ (0 ≤ m0 38 0 k ∧ m0 38 0 k < K) ∧ (0 ≤ m0 37 0 k ∧ m0 37 0 k ≤ 40)) : ∀ (k e : Nat) (m : xMi) (c D : Int), D + k ≤ 100000 → e + k ≤ 1000 → rF m = F → (∀ t k, 37 ≤ t → t ≤ 39 → m t 0 k = m0 t 0 k) → aW K D (rA m) → (c = 0 ∨ c = 1) →
    ((RV_X7_isSo_8 K z k e m c = 1 ∧ (c = 1 ∧ hdA F K m0 z k e (rA m)) ∨ RV_X7_isSo_8 K z k e m c = 0 ∧ ¬ (c = 1 ∧ hdA F K m0 z k e (rA m))) ∧ ∃ mX, RS_X7_isSo_8 K z k e m c = S_X7_putBack mX ∧ sG m mX) := by
  intro k
  induction k with
  | zero =>
    intro e m c D _ _ _ _ _ hc
    refine ⟨?_, m, rfl, sG.rf m⟩
    unfold RV_X7_isSo_8 hdA
    rcases hc with rfl | rfl
    · exact Or.inr ⟨rfl, fun y => absurd y.1 (by decide)⟩
    · exact Or.inl ⟨rfl, rfl, trivial⟩
  | succ k ih =>
    intro e m c D hD he hFm hm hW hc
    have inner : ∀ (j p : Nat) (c : Int), p + j ≤ z → (c = 0 ∨ c = 1) → IA_X7_isSo_16_a z e j p m c = 1 ∧ (c = 1 ∧ hdR m0 p j (e : Int) (rA m)) ∨ IA_X7_isSo_16_a z e j p m c = 0 ∧ ¬ (c = 1 ∧ hdR m0 p j (e : Int) (rA m)) := by
      intro j
      induction j with
      | zero =>
        intro p c _ hc
        unfold IA_X7_isSo_16_a
        rcases hc with rfl | rfl
        · exact Or.inr ⟨rfl, fun y => absurd y.1 (by decide)⟩
        · exact Or.inl ⟨rfl, rfl, hdR_z⟩
      | succ j ihj =>
        intro p c hp hc
        obtain ⟨z4, z5, z6⟩ := h39 p (by omega)
        have hq : (m0 38 0 p).toNat < K := by omega
        have hrow := hW.row hq
        have hd := hW.1
        have i3 : rA m 3 (m0 38 0 p).toNat = m 32 0 (m0 38 0 p).toNat := rA_at m (by omega) (by omega)
        have w0 := ihj (p + 1) 0 (by omega) (Or.inl rfl)
        have w1 := ihj (p + 1) 1 (by omega) (Or.inr rfl)
        unfold IA_X7_isSo_16_a
        rw [hm 37 p (by omega) (by omega), hm 38 p (by omega) (by omega), hm 39 p (by omega) (by omega), ← i3, hdR_succ, x_wrs (a := rA m 3 (m0 38 0 p).toNat) (by omega) (by omega), x_wrs (a := m0 37 0 p) (by omega) (by omega), x_wrs (a := m0 39 0 p) (by omega) (by omega), x_wrs (a := (e : Int)) (by omega) (by omega), xwm4, xw0, xw1]
        have n01 : ¬ (0 : Int) = 1 := by decide
        have n10 : ¬ (1 : Int) = 0 := by decide
        rcases hc with rfl | rfl
        · rw [xw0]
          simp only [if_true, ite_self]
          rcases w0 with ⟨y1, y2⟩ | ⟨y1, y2⟩
          · exact absurd y2.1 n01
          · exact Or.inr ⟨y1, fun y => n01 y.1⟩
        · rw [xw1]
          simp only [if_neg n10, if_neg n01, if_true]
          by_cases c1 : rA m 3 (m0 38 0 p).toNat = -4
          · rw [if_pos c1]
            by_cases c2 : m0 37 0 p = (e : Int)
            · rw [if_pos c2]
              by_cases c3 : m0 39 0 p = 1
              · rw [if_pos c3]
                rcases w0 with ⟨y1, y2⟩ | ⟨y1, y2⟩
                · exact absurd y2.1 n01
                · exact Or.inr ⟨y1, fun y => ((y.2.1 c2).mpr c3) c1⟩
              · rw [if_neg c3]
                rcases w1 with ⟨y1, y2⟩ | ⟨y1, y2⟩
                · exact Or.inl ⟨y1, trivial, fun _ => ⟨fun y => absurd c1 y, fun y => absurd y c3⟩, y2.2⟩
                · exact Or.inr ⟨y1, fun y => y2 ⟨rfl, y.2.2⟩⟩
            · rw [if_neg c2]
              rcases w1 with ⟨y1, y2⟩ | ⟨y1, y2⟩
              · exact Or.inl ⟨y1, trivial, fun y => absurd y c2, y2.2⟩
              · exact Or.inr ⟨y1, fun y => y2 ⟨rfl, y.2.2⟩⟩
          · rw [if_neg c1]
            by_cases c2 : m0 37 0 p = (e : Int)
            · rw [if_pos c2]
              by_cases c3 : m0 39 0 p = 1
              · rw [if_pos c3]
                rcases w1 with ⟨y1, y2⟩ | ⟨y1, y2⟩
                · exact Or.inl ⟨y1, trivial, fun _ => ⟨fun y => c3, fun y => c1⟩, y2.2⟩
                · exact Or.inr ⟨y1, fun y => y2 ⟨rfl, y.2.2⟩⟩
              · rw [if_neg c3]
                rcases w0 with ⟨y1, y2⟩ | ⟨y1, y2⟩
                · exact absurd y2.1 n01
                · exact Or.inr ⟨y1, fun y => c3 ((y.2.1 c2).mp c1)⟩
            · rw [if_neg c2]
              rcases w1 with ⟨y1, y2⟩ | ⟨y1, y2⟩
              · exact Or.inl ⟨y1, trivial, fun y => absurd y c2, y2.2⟩
              · exact Or.inr ⟨y1, fun y => y2 ⟨rfl, y.2.2⟩⟩
    have hP := rA_passes (m := m) (b := 0) (D := D) hK xw0 (by omega) (by rw [hFm]; exact hF) hW
    have hi := inner z 0 c (by omega) hc
    have hci : IA_X7_isSo_16_a z e z 0 m c = 0 ∨ IA_X7_isSo_16_a z e z 0 m c = 1 := by
      rcases hi with ⟨y, -⟩ | ⟨y, -⟩
      · exact Or.inr y
      · exact Or.inl y
    obtain ⟨ih1, mX, ih2, ih3⟩ := ih (e + 1) (S_X7_passes m 0 K) (IA_X7_isSo_16_a z e z 0 m c) (D + 1) (by omega) (by omega) (by rw [(sM_passes m 0 K).F]; exact hFm) (fun t j h1 h2 => by rw [sM_passes m 0 K t j (by omega)]; exact hm t j h1 h2) (by rw [hP.1]; exact aP_W hW) hci
    rw [hP.1, hFm] at ih1
    refine ⟨?_, mX, ih2, (sG_passes m 0 K).tr ih3⟩
    unfold RV_X7_isSo_8 hdA
    rcases ih1 with ⟨y1, y2⟩ | ⟨y1, y2⟩
    · refine Or.inl ⟨y1, ?_⟩
      rcases hi with ⟨w1, w2⟩ | ⟨w1, w2⟩
      · exact ⟨w2.1, w2.2, y2.2⟩
      · rw [w1] at y2; exact absurd y2.1 (by decide)
    · refine Or.inr ⟨y1, fun y => y2 ?_⟩
      rcases hi with ⟨w1, w2⟩ | ⟨w1, w2⟩
      · exact ⟨w1, y.2.2⟩
      · exact absurd ⟨y.1, y.2.1⟩ w2
/-- a guess fits on both sides or on none -/
theorem guess {K z : Nat} {F : aS} {s m : xMi} {D : Int} (hK : K ≤ 6) (hF : aF K F) (hD : D + 50 ≤ 100000) (hZ : zS K z s m) (hC : cF 0 s K (rA m)) (hR : cR 2 s K F) (hFm : rF m = F) (hW : aW K D (rA m)) : V_X6_guessFits s K z = V_X7_isSo m K z ∧ (V_X7_isSo m K z = 0 ∨ V_X7_isSo m K z = 1) ∧ bk m (S_X7_isSo m K z) := by
  have hc := c_allHold (f := 2) (s := S_X0_copyFrom s 2 0) (m := m) (a := rA m) (D := D) hK hF hD (hZ.same (fun t k h1 h2 => fr_S_X0_copyFrom s 2 0 (by omega)) (fun _ _ _ _ => rfl)) (cF_copyFrom hK (by omega) hC) (hR.same (fun t h1 h2 k => fr_S_X0_copyFrom s 2 0 (by omega))) hW
  have hA := st_A m
  obtain ⟨r1, mX, r2, r3⟩ := r_isSo (F := F) (m0 := m) hK hZ.1 hF (fun k hk => ⟨(hZ.2 k hk).2.2.2.1, (hZ.2 k hk).2.2.2.2.1, (hZ.2 k hk).2.2.2.2.2⟩) 41 0 (S_X7_start m) 1 D (by omega) (by omega) (hA.2.trans hFm) (fun t k h1 h2 => fr_S_X7_start m (by omega)) (by rw [hA.1]; exact hW) (Or.inr rfl)
  rw [hA.1] at r1
  refine ⟨?_, ?_, ?_⟩
  · unfold V_X6_guessFits V_X7_isSo
    rcases hc with ⟨y1, y2⟩ | ⟨y1, y2⟩
    · rcases r1 with ⟨w1, w2⟩ | ⟨w1, w2⟩
      · rw [y1, w1]
      · exact absurd ⟨rfl, y2⟩ w2
    · rcases r1 with ⟨w1, w2⟩ | ⟨w1, w2⟩
      · exact absurd w2.2 y2
      · rw [y1, w1]
  · unfold V_X7_isSo
    rcases r1 with ⟨w1, w2⟩ | ⟨w1, w2⟩
    · exact Or.inr w1
    · exact Or.inl w1
  · unfold S_X7_isSo
    rw [r2]
    exact bk.of r3
