section
variable {f : Nat} {K : Nat} {F : aS}
theorem cF_passDays {n : Nat} (hK : K ≤ 6) (hF : aF K F) : ∀ (k e : Nat) (s : xMi) (a : aS) (D : Int), D + k ≤ 100000 → cF f s K a → cR (x_rof f) s K F → aW K D a → cF f (RS_X0_passDays_2 f n K k e s) K (aPs F K k a) := by
  intro k
  induction k with
  | zero => intro e s a D _ hC _ _; exact hC
  | succ k ih =>
    intro e s a D hD hC hR hW
    exact ih (e + 1) _ _ (D + 1) (by omega) (cF_passDay hK xw0 (by omega) hF hC hR hW) (hR.same (fun t h1 h2 j => fr_S_X0_passDay s f 0 K (by omega))) (aP_W hW)
end
theorem x_bn_bn (v : Int) : x_bn (x_bn v) = x_bn v := by
  unfold x_bn
  by_cases h : v = 0
  · rw [if_pos h, if_pos rfl]
  · rw [if_neg h, if_neg (by decide)]
theorem x_cp_y {σ : xMi} {t i t0 i0 n k : Nat} (h : k < n) : x_cp σ t i t0 i0 n t i k = σ t0 i0 k := if_pos ⟨rfl, rfl, h⟩
theorem cF_copyFrom {f g : Nat} {s : xMi} {K : Nat} {a : aS} (hK : K ≤ 6) (hfg : g ≠ f) (hC : cF g s K a) : cF f (S_X0_copyFrom s f g) K a := by
  obtain ⟨⟨g0, g1, g2, g3⟩, hr, hs, hh, hf⟩ := hC
  have hfg' : ¬ f = g := fun h => hfg h.symm
  refine ⟨⟨?_, ?_, ?_, ?_⟩, fun q hq => ?_, ?_, ?_, ?_⟩
  · simpa [S_X0_copyFrom, T_X0_copyFrom_2, T_X0_copyFrom_1, x_up, x_cp, hfg] using g0
  · simpa [S_X0_copyFrom, T_X0_copyFrom_2, T_X0_copyFrom_1, x_up, x_cp, hfg] using g1
  · simpa [S_X0_copyFrom, T_X0_copyFrom_2, T_X0_copyFrom_1, x_up, x_cp, hfg, x_bn_bn] using g2
  · simpa [S_X0_copyFrom, T_X0_copyFrom_2, T_X0_copyFrom_1, x_up, x_cp, hfg] using g3
  · obtain ⟨r0, r1, r2, r3⟩ := hr q hq
    have hq6 : q < 6 := by omega
    exact ⟨by simpa [S_X0_copyFrom, T_X0_copyFrom_2, T_X0_copyFrom_1, x_up, x_cp, hfg, hq6] using r0, by simpa [S_X0_copyFrom, T_X0_copyFrom_2, T_X0_copyFrom_1, x_up, x_cp, hfg, hq6] using r1, by simpa [S_X0_copyFrom, T_X0_copyFrom_2, T_X0_copyFrom_1, x_up, x_cp, hfg, hq6] using r2, by simpa [S_X0_copyFrom, T_X0_copyFrom_2, T_X0_copyFrom_1, x_up, x_cp, hfg, hq6] using r3⟩
  · simpa [S_X0_copyFrom, T_X0_copyFrom_2, T_X0_copyFrom_1, x_up, x_cp, hfg] using hs
  · simpa [S_X0_copyFrom, T_X0_copyFrom_2, T_X0_copyFrom_1, x_up, x_cp, hfg] using hh
  · simpa [S_X0_copyFrom, T_X0_copyFrom_2, T_X0_copyFrom_1, x_up, x_cp, hfg] using hf
/-! sets as bits, both ways -/
theorem bB.snoc1 {h : Int} {p : Nat} {g : Nat → Int} (hb : bB h p g) (hp : p < 6) (h1 : g p = 1) : bB (x_or h (x_shl 1 (p : Int))) (p + 1) g := by
  obtain ⟨n, e1, rfl, e3⟩ := hb
  obtain ⟨k1, k2⟩ := bt_or n e1 p hp
  refine ⟨n ||| 2 ^ p, k2, k1, fun q hq => ?_⟩
  rw [bt_orb n e1 p hp q hq, Bool.or_eq_true, e3 q hq, decide_eq_true_iff]
  constructor
  · rintro (⟨z1, z2⟩ | rfl)
    · exact ⟨by omega, z2⟩
    · exact ⟨by omega, h1⟩
  · rintro ⟨z1, z2⟩
    by_cases c : q = p
    · exact Or.inr c
    · exact Or.inl ⟨by omega, z2⟩
theorem bB.snoc0 {h : Int} {p : Nat} {g : Nat → Int} (hb : bB h p g) (h1 : g p ≠ 1) : bB h (p + 1) g := by
  obtain ⟨n, e1, e2, e3⟩ := hb
  refine ⟨n, e1, e2, fun q hq => (e3 q hq).trans ⟨fun z => ⟨by omega, z.2⟩, fun z => ⟨?_, z.2⟩⟩⟩
  by_cases c : q = p
  · subst c; exact absurd z.2 h1
  · omega
theorem bB.or0 {h : Int} {p : Nat} {g : Nat → Int} (hb : bB h p g) : x_or h 0 = h := by
  obtain ⟨n, e1, rfl, e3⟩ := hb
  exact bt_or0 n e1
/-- of numbers: 1 where above 0 -/
def gP (r : Nat → Int) : Nat → Int := fun q => if 0 < r q then 1 else 0
/-- of numbers: 1 where not NONE -/
def gT (r : Nat → Int) : Nat → Int := fun q => if r q = -4 then 0 else 1
theorem b_eating {f K : Nat} {s : xMi} {a : aS} (hK : K ≤ 6) (hC : cF f s K a) (hR : aRg K a) : bB (V_X0_eatingBits s f K) K (gP (a 2)) := by
  have key : ∀ (k p : Nat) (c : Int), p + k = K → bB c p (gP (a 2)) → bB (RV_X0_eatingBits_4 f K k p s c) K (gP (a 2)) := by
    intro k
    induction k with
    | zero => intro p c hp hb; unfold RV_X0_eatingBits_4; rw [← (by omega : p = K)]; exact hb
    | succ k ih =>
      intro p c hp hb
      have h2 := hR.2 p (by omega)
      unfold RV_X0_eatingBits_4
      rw [(hC.2.1 p (by omega)).2.2.1, x_wrs (a := a 2 p) (by omega) (by omega)]
      split
      · exact ih (p + 1) c (by omega) (hb.snoc0 (by unfold gP; rw [if_neg (by omega)]; omega))
      · exact ih (p + 1) _ (by omega) (hb.snoc1 (by omega) (by unfold gP; rw [if_pos (by omega)]))
  exact key K 0 0 (by omega) (bB.zero 0 (fun p h => by omega))
theorem b_told {f K : Nat} {s : xMi} {a : aS} (hK : K ≤ 6) (hC : cF f s K a) (hT : aTt K a) : bB (V_X0_toldBits s f K) K (gT (a 3)) := by
  have key : ∀ (k p : Nat) (c : Int), p + k = K → bB c p (gT (a 3)) → bB (RV_X0_toldBits_4 f K k p s c) K (gT (a 3)) := by
    intro k
    induction k with
    | zero => intro p c hp hb; unfold RV_X0_toldBits_4; rw [← (by omega : p = K)]; exact hb
    | succ k ih =>
      intro p c hp hb
      unfold RV_X0_toldBits_4
      rw [c_isTold hC hT.1 (hT.2 p (by omega)).2.2 (by omega)]
      by_cases e : a 3 p = -4
      · rw [if_pos e, xw0, if_pos rfl]
        exact ih (p + 1) c (by omega) (hb.snoc0 (by unfold gT; rw [if_pos e]; omega))
      · rw [if_neg e, xw1, if_neg (by omega)]
        exact ih (p + 1) _ (by omega) (hb.snoc1 (by omega) (by unfold gT; rw [if_neg e]))
  exact key K 0 0 (by omega) (bB.zero 0 (fun p h => by omega))
theorem b_eatSet {K : Nat} {m : xMi} (hK : K ≤ 6) (hR : aRg K (rA m)) : bB (V_X7_eatSet m K) K (gP (rA m 2)) := by
  have key : ∀ (k p : Nat) (c : Int), p + k = K → bB c p (gP (rA m 2)) → bB (RV_X7_eatSet_4 K k p m c) K (gP (rA m 2)) := by
    intro k
    induction k with
    | zero => intro p c hp hb; unfold RV_X7_eatSet_4; rw [← (by omega : p = K)]; exact hb
    | succ k ih =>
      intro p c hp hb
      have h2 := hR.2 p (by omega)
      have e : rA m 2 p = m 31 0 p := rA_at m (by omega) (by omega)
      unfold RV_X7_eatSet_4
      rw [← e, x_wrs (a := rA m 2 p) (by omega) (by omega), hb.or0]
      split
      · exact ih (p + 1) c (by omega) (hb.snoc0 (by unfold gP; rw [if_neg (by omega)]; omega))
      · exact ih (p + 1) _ (by omega) (hb.snoc1 (by omega) (by unfold gP; rw [if_pos (by omega)]))
  exact key K 0 0 (by omega) (bB.zero 0 (fun p h => by omega))
theorem b_toldSet {K : Nat} {m : xMi} (hK : K ≤ 6) (hR : aRg K (rA m)) : bB (V_X7_toldSet m K) K (gT (rA m 3)) := by
  have key : ∀ (k p : Nat) (c : Int), p + k = K → bB c p (gT (rA m 3)) → bB (RV_X7_toldSet_4 K k p m c) K (gT (rA m 3)) := by
    intro k
    induction k with
    | zero => intro p c hp hb; unfold RV_X7_toldSet_4; rw [← (by omega : p = K)]; exact hb
    | succ k ih =>
      intro p c hp hb
      have h2 := hR.2 p (by omega)
      have e : rA m 3 p = m 32 0 p := rA_at m (by omega) (by omega)
      unfold RV_X7_toldSet_4
      rw [← e, x_wrs (a := rA m 3 p) (by omega) (by omega), hb.or0, xwm4]
      by_cases d : rA m 3 p = -4
      · rw [if_pos d]
        exact ih (p + 1) c (by omega) (hb.snoc0 (by unfold gT; rw [if_pos d]; omega))
      · rw [if_neg d]
        exact ih (p + 1) _ (by omega) (hb.snoc1 (by omega) (by unfold gT; rw [if_neg d]))
  exact key K 0 0 (by omega) (bB.zero 0 (fun p h => by omega))
theorem bt_sh0 : ∀ p : Nat, p < 6 → x_shl 0 (p : Int) = 0 := by decide +kernel
theorem b_softSet {K : Nat} {m : xMi} {D : Int} (hK : K ≤ 6) (hW : aW K D (rA m)) : bB (V_X7_softSet m K) K (rA m 4) := by
  have key : ∀ (k p : Nat) (c : Int), p + k = K → bB c p (rA m 4) → bB (RV_X7_softSet_4 K k p m c) K (rA m 4) := by
    intro k
    induction k with
    | zero => intro p c hp hb; unfold RV_X7_softSet_4; rw [← (by omega : p = K)]; exact hb
    | succ k ih =>
      intro p c hp hb
      have h2 := hW.row (q := p) (by omega)
      have e : rA m 4 p = m 33 0 p := rA_at m (by omega) (by omega)
      unfold RV_X7_softSet_4
      rw [← e]
      by_cases d : rA m 4 p = 1
      · refine ih (p + 1) _ (by omega) ?_
        have := hb.snoc1 (by omega) d
        rw [d]; exact this
      · have d0 : rA m 4 p = 0 := by omega
        refine ih (p + 1) _ (by omega) ?_
        rw [d0, bt_sh0 p (by omega), hb.or0]
        exact hb.snoc0 d
  exact key K 0 0 (by omega) (bB.zero 0 (fun p h => by omega))
theorem bc_bits (σ : xMi) : ∀ n : Nat, n < 64 → V_J6_bitCount_0f7a4 σ (n : Int) = V_X7_bits σ (n : Int) := by
  unfold V_J6_bitCount_0f7a4 V_X7_bits
  simp only [RV_X7_bits_4]
  decide +kernel
theorem bB.bits {h : Int} {K : Nat} {g : Nat → Int} (σ σ' : xMi) (hb : bB h K g) : V_J6_bitCount_0f7a4 σ h = V_X7_bits σ' h := by
  obtain ⟨n, e1, rfl, e3⟩ := hb
  have e := bc_bits σ n e1
  rw [e]
  unfold V_X7_bits
  simp only [RV_X7_bits_4]
def cb (n : Nat) : Nat → Nat → Int
  | 0, _ => 0
  | k + 1, p => (if n.testBit p then 1 else 0) + cb n k (p + 1)
theorem bc_cb (σ : xMi) : ∀ n : Nat, n < 64 → V_J6_bitCount_0f7a4 σ (n : Int) = cb n 6 0 := by
  unfold V_J6_bitCount_0f7a4
  simp only [cb]
  decide +kernel
theorem cb_add (n : Nat) : ∀ (k k2 p : Nat), cb n (k + k2) p = cb n k p + cb n k2 (p + k) := by
  intro k
  induction k with
  | zero => intro k2 p; simp [cb]
  | succ k ih =>
    intro k2 p
    have e1 : cb n (k + 1 + k2) p = (if n.testBit p then 1 else 0) + cb n (k + k2) (p + 1) := by rw [(by omega : k + 1 + k2 = (k + k2) + 1)]; rfl
    have e2 : cb n (k + 1) p = (if n.testBit p then 1 else 0) + cb n k (p + 1) := rfl
    rw [e1, e2, ih k2 (p + 1), (by omega : p + 1 + k = p + (k + 1))]
    omega
theorem bB.cnt {h : Int} {K : Nat} {a : aS} (σ : xMi) (hK : K ≤ 6) (hb : bB h K (gT (a 3))) : V_J6_bitCount_0f7a4 σ h = tcr a K 0 := by
  obtain ⟨n, e1, rfl, e3⟩ := hb
  rw [bc_cb σ n e1]
  have k1 : ∀ (k p : Nat), p + k ≤ K → cb n k p = tcr a k p := by
    intro k
    induction k with
    | zero => intro p _; rfl
    | succ k ih =>
      intro p hp
      unfold cb tcr
      rw [ih (p + 1) (by omega)]
      have h3 := e3 p (by omega)
      unfold gT at h3
      by_cases c : a 3 p = -4
      · rw [if_pos c] at h3 ⊢
        rw [if_neg (fun z => by have := (h3.mp z).2; omega)]
      · rw [if_neg c] at h3 ⊢
        rw [if_pos (h3.mpr ⟨by omega, rfl⟩)]
  have k2 : ∀ (k p : Nat), K ≤ p → p + k ≤ 6 → cb n k p = 0 := by
    intro k
    induction k with
    | zero => intro p _ _; rfl
    | succ k ih =>
      intro p hp h6
      unfold cb
      rw [ih (p + 1) (by omega) (by omega), if_neg (fun z => by have := ((e3 p (by omega)).mp z).1; omega)]
      rfl
  have e : cb n 6 0 = cb n (K + (6 - K)) 0 := by rw [(by omega : K + (6 - K) = 6)]
  rw [e, cb_add, k1 K 0 (by omega), k2 (6 - K) (0 + K) (by omega) (by omega)]
  omega
/-! weights -/
def wS (F : aS) (g : Nat → Int) : Nat → Nat → Int
  | 0, _ => 0
  | k + 1, p => (if g p = 1 then F 3 p else 0) + wS F g k (p + 1)
theorem wS_cong {F : aS} {g g' : Nat → Int} : ∀ (k p : Nat), (∀ q, p ≤ q → q < p + k → (g' q = 1 ↔ g q = 1)) → wS F g' k p = wS F g k p := by
  intro k
  induction k with
  | zero => intro p _; rfl
  | succ k ih =>
    intro p h
    unfold wS
    rw [ih (p + 1) (fun q h1 h2 => h q (by omega) (by omega))]
    have h0 := h p (by omega) (by omega)
    by_cases c : g p = 1
    · rw [if_pos c, if_pos (h0.mpr c)]
    · rw [if_neg c, if_neg (fun z => c (h0.mp z))]
theorem wS_mono {F : aS} {g g' : Nat → Int} {K : Nat} (hF : aF K F) : ∀ (k p : Nat), p + k ≤ K → (∀ q, p ≤ q → q < p + k → (g q = 1 → g' q = 1)) → wS F g k p ≤ wS F g' k p := by
  intro k
  induction k with
  | zero => intro p _ _; exact Int.le_refl _
  | succ k ih =>
    intro p hp h
    unfold wS
    have h1 := ih (p + 1) (by omega) (fun q h1 h2 => h q (by omega) (by omega))
    have h0 := h p (by omega) (by omega)
    have hf := hF p (by omega)
    by_cases c : g p = 1
    · rw [if_pos c, if_pos (h0 c)]; omega
    · rw [if_neg c]
      split <;> omega
theorem wS_in {F : aS} {g : Nat → Int} {K : Nat} (hF : aF K F) : ∀ (k p : Nat), p + k ≤ K → 0 ≤ wS F g k p ∧ wS F g k p ≤ 9 * k := by
  intro k
  induction k with
  | zero => intro p _; exact ⟨Int.le_refl _, by unfold wS; omega⟩
  | succ k ih =>
    intro p hp
    unfold wS
    have h1 := ih (p + 1) (by omega)
    have hf := hF p (by omega)
    split <;> omega
noncomputable def esI (F a : aS) (q : Nat) : Int := @ite Int (aES F a q) (Classical.propDecidable _) 1 0
theorem esI_1 {F a : aS} {q : Nat} : esI F a q = 1 ↔ aES F a q := by
  unfold esI
  by_cases h : aES F a q
  · rw [if_pos h]; exact ⟨fun _ => h, fun _ => rfl⟩
  · rw [if_neg h]; exact ⟨fun z => absurd z (by omega), fun z => absurd z h⟩
theorem w_ref {K : Nat} {m : xMi} {D : Int} (hK : K ≤ 6) (hW : aW K D (rA m)) : V_X7_softWeight m K = wS (rF m) (rA m 4) K 0 := by
  have key : ∀ (k p : Nat) (c : Int), p + k ≤ K → RV_X7_softWeight_4 K k p m c = c + wS (rF m) (rA m 4) k p := by
    intro k
    induction k with
    | zero => intro p c _; unfold RV_X7_softWeight_4 wS; omega
    | succ k ih =>
      intro p c hp
      have h2 := hW.row (q := p) (by omega)
      have e : rA m 4 p = m 33 0 p := rA_at m (by omega) (by omega)
      have e3 : rF m 3 p = m 28 0 p := rfl
      unfold RV_X7_softWeight_4 wS
      rw [← e, x_wrs (a := rA m 4 p) (by omega) (by omega), xw1, ih (p + 1) _ (by omega), ih (p + 1) _ (by omega), e3]
      by_cases d : rA m 4 p = 1
      · rw [if_pos d, if_pos d]; omega
      · rw [if_neg d, if_neg d]; omega
  have h := key K 0 0 (by omega)
  unfold V_X7_softWeight
  rw [h]
  omega
theorem w_cls {f K : Nat} {s : xMi} {a F : aS} {D : Int} (hK : K ≤ 6) (hC : cF f s K a) (hRl : cR (x_rof f) s K F) (hW : aW K D a) : V_X0_softWeight s f K = wS F (a 4) K 0 := by
  have key : ∀ (k p : Nat) (c : Int), p + k ≤ K → RV_X0_softWeight_4 f K k p s c = c + wS F (a 4) k p := by
    intro k
    induction k with
    | zero => intro p c _; unfold RV_X0_softWeight_4 wS; omega
    | succ k ih =>
      intro p c hp
      have h2 := hW.row (q := p) (by omega)
      unfold RV_X0_softWeight_4 wS
      rw [hC.2.2.1.isIn s hK (by omega) (by omega), x_wrs (a := a 4 p) (by omega) (by omega), ih (p + 1) _ (by omega), ih (p + 1) _ (by omega), (hRl p (by omega)).2.2.2]
      by_cases d : a 4 p = 1
      · rw [if_neg (by omega), if_pos d]; omega
      · rw [if_pos (by omega), if_neg d]; omega
  have h := key K 0 0 (by omega)
  unfold V_X0_softWeight
  rw [h]
  omega
def sS (g : Nat → Int) : Nat → Nat → Int
  | 0, _ => 0
  | k + 1, p => g p + sS g k (p + 1)
theorem s_ref {K : Nat} {m : xMi} (hK : K ≤ 6) : V_X7_sumOf m K = sS (rA m 0) K 0 := by
  have key : ∀ (k p : Nat) (c : Int), p + k ≤ K → RV_X7_sumOf_4 K k p m c = c + sS (rA m 0) k p := by
    intro k
    induction k with
    | zero => intro p c _; unfold RV_X7_sumOf_4 sS; omega
    | succ k ih =>
      intro p c hp
      have e : rA m 0 p = m 29 0 p := rA_at m (by omega) (by omega)
      unfold RV_X7_sumOf_4 sS
      rw [ih (p + 1) _ (by omega), e]
      omega
  have h := key K 0 0 (by omega)
  unfold V_X7_sumOf
  rw [h]
  omega
theorem s_cls {f K : Nat} {s : xMi} {a : aS} (hC : cF f s K a) : V_X0_allOnWay s f K = sS (a 0) K 0 := by
  have key : ∀ (k p : Nat) (c : Int), p + k ≤ K → RV_X0_allOnWay_4 f K k p s c = c + sS (a 0) k p := by
    intro k
    induction k with
    | zero => intro p c _; unfold RV_X0_allOnWay_4 sS; omega
    | succ k ih =>
      intro p c hp
      unfold RV_X0_allOnWay_4 sS
      rw [ih (p + 1) _ (by omega), (hC.2.1 p (by omega)).1]
      omega
  have h := key K 0 0 (by omega)
  unfold V_X0_allOnWay
  rw [h]
  omega
/-- what could at best come of it: those who end soft, and of the set those that would if sent one now -/
abbrev aSp (F a : aS) (q : Nat) : Int := F 2 q - a 8 0 - (F 1 q / 10 + 1) - (if F 0 q = 3 ∧ a 6 q = 0 then 1 else 0)
noncomputable def uI (F a : aS) (S : Nat → Prop) (q : Nat) : Int := @ite Int (aES F a q ∨ (S q ∧ 0 ≤ aSp F a q)) (Classical.propDecidable _) 1 0
theorem uI_1 {F a : aS} {S : Nat → Prop} {q : Nat} : uI F a S q = 1 ↔ aES F a q ∨ (S q ∧ 0 ≤ aSp F a q) := by
  unfold uI
  by_cases h : aES F a q ∨ (S q ∧ 0 ≤ aSp F a q)
  · rw [if_pos h]; exact ⟨fun _ => h, fun _ => rfl⟩
  · rw [if_neg h]; exact ⟨fun z => absurd z (by omega), fun z => absurd z h⟩
theorem f_cls {f K : Nat} {s : xMi} {a F : aS} {D b : Int} {g : Nat → Int} (hK : K ≤ 6) (hD : D ≤ 100000) (hF : aF K F) (hC : cF f s K a) (hRl : cR (x_rof f) s K F) (hW : aW K D a) (hb : bB b K g) (hg : ∀ q, q < K → 0 ≤ g q ∧ g q ≤ 1) : V_X0_finalWeight s f b K = wS F (uI F a (fun q => g q = 1)) K 0 := by
  have key : ∀ (k p : Nat) (c : Int), p + k ≤ K → RV_X0_finalWeight_4 f b K k p s c = c + wS F (uI F a (fun q => g q = 1)) k p := by
    intro k
    induction k with
    | zero => intro p c _; unfold RV_X0_finalWeight_4 wS; omega
    | succ k ih =>
      intro p c hp
      have hgp := hg p (by omega)
      have hd := hW.1
      have hfp := hF p (by omega)
      have hs := c_spareDays (p := p) hK hC hRl hF hW (by omega)
      have bs : -1000000 ≤ V_X0_spareDays s f p ∧ V_X0_spareDays s f p ≤ 1000000 := by rw [hs]; split <;> omega
      have hu := uI_1 (F := F) (a := a) (S := fun q => g q = 1) (q := p)
      unfold RV_X0_finalWeight_4 wS
      rw [hb.isIn s hK (by omega) hgp, x_wrs (a := g p) (by omega) (by omega), x_wrs bs.1 bs.2, ih (p + 1) _ (by omega), ih (p + 1) _ (by omega), (hRl p (by omega)).2.2.2]
      rcases c_endsSoft (p := p) hK hD hC hRl hF hW (by omega) with ⟨e1, e2⟩ | ⟨e1, e2⟩
      · rw [e1, xw1, if_neg (by omega), if_pos (hu.mpr (Or.inl e2))]; omega
      · rw [e1, xw0, if_pos rfl]
        by_cases c1 : g p = 0
        · rw [if_pos c1, if_neg (fun z => by rcases hu.mp z with z | z; exact e2 z; have := z.1; omega)]; omega
        · rw [if_neg c1]
          rw [hs]
          by_cases c2 : aSp F a p < 0
          · rw [if_pos c2, if_neg (fun z => by rcases hu.mp z with z | z; exact e2 z; have := z.2; omega)]; omega
          · rw [if_neg c2, if_pos (hu.mpr (Or.inr ⟨by show g p = 1; omega, by omega⟩))]; omega
  have h := key K 0 0 (by omega)
  unfold V_X0_finalWeight
  rw [h]
  omega
theorem f_cls0 {f K : Nat} {s : xMi} {a F : aS} {D : Int} (hK : K ≤ 6) (hD : D ≤ 100000) (hF : aF K F) (hC : cF f s K a) (hRl : cR (x_rof f) s K F) (hW : aW K D a) : V_X0_finalWeight s f 0 K = wS F (esI F a) K 0 := by
  rw [f_cls (g := fun _ => 0) hK hD hF hC hRl hW (bB.zero K (fun p _ => by omega)) (fun q _ => by omega)]
  refine wS_cong _ _ (fun q _ _ => ?_)
  rw [uI_1, esI_1]
  constructor
  · rintro (z | z)
    · exact z
    · exact absurd z.1 (by omega)
  · exact Or.inl
