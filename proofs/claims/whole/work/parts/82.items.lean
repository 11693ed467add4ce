def OK4 (ch : Nat → Int) (r q : Nat) (v0 v1 v2 v3 : Int) (q4 : Nat) : Prop := r < 6 ∧ ∃ a1 a2 a3, nmA ch q 44 = some (v0, a1) ∧ nmA ch a1 44 = some (v1, a2) ∧ nmA ch a2 44 = some (v2, a3) ∧ nmA ch a3 59 = some (v3, q4) ∧ v0 ≤ 3 ∧ v1 ≤ 40 ∧ v2 ≤ 40 ∧ 1 ≤ v3 ∧ v3 ≤ 9
def OK1 (ch : Nat → Int) (q : Nat) (v : Int) (q' : Nat) : Prop := nmA ch q 59 = some (v, q') ∧ v ≤ 20
theorem some_inj2 {v v' : Int} {q q' : Nat} (h : some (v, q) = some (v', q')) : v = v' ∧ q = q' := by
  simp only [Option.some.injEq, Prod.mk.injEq] at h; exact h
theorem OK4_uniq {ch : Nat → Int} {r q : Nat} {v0 v1 v2 v3 w0 w1 w2 w3 : Int} {q4 p4 : Nat} (h : OK4 ch r q v0 v1 v2 v3 q4) (h' : OK4 ch r q w0 w1 w2 w3 p4) : v0 = w0 ∧ v1 = w1 ∧ v2 = w2 ∧ v3 = w3 ∧ q4 = p4 := by
  obtain ⟨-, a1, a2, a3, e1, e2, e3, e4, -⟩ := h
  obtain ⟨-, b1, b2, b3, f1, f2, f3, f4, -⟩ := h'
  obtain ⟨rfl, rfl⟩ := some_inj2 (e1.symm.trans f1)
  obtain ⟨rfl, rfl⟩ := some_inj2 (e2.symm.trans f2)
  obtain ⟨rfl, rfl⟩ := some_inj2 (e3.symm.trans f3)
  obtain ⟨rfl, rfl⟩ := some_inj2 (e4.symm.trans f4)
  exact ⟨rfl, rfl, rfl, rfl, rfl⟩
/-- four numbers of the class's -/
theorem rn4 {w q : Nat} {s m : xMi} (hT : pT w s m) (hq : q < 1000) : (V_X5_readNumbers s q 4 = -4 ∧ ∀ a1 a2 a3 v0 v1 v2 v3 q4, ¬ (nmA (chr w m) q 44 = some (v0, a1) ∧ nmA (chr w m) a1 44 = some (v1, a2) ∧ nmA (chr w m) a2 44 = some (v2, a3) ∧ nmA (chr w m) a3 59 = some (v3, q4))) ∨ (∃ a1 a2 a3 v0 v1 v2 v3 q4, (nmA (chr w m) q 44 = some (v0, a1) ∧ nmA (chr w m) a1 44 = some (v1, a2) ∧ nmA (chr w m) a2 44 = some (v2, a3) ∧ nmA (chr w m) a3 59 = some (v3, q4)) ∧ V_X5_readNumbers s q 4 = (q4 : Int) ∧ S_X5_readNumbers s q 4 = x_up (x_up (x_up (x_up s 12 0 0 v0) 12 0 1 v1) 12 0 2 v2) 12 0 3 v3) := by
  have hw := hT.1
  unfold V_X5_readNumbers S_X5_readNumbers
  have s0 := rn_cls hT (a := q) (n := 4) (k := 3) (e := 0) (q := q) (by omega) (by omega) (by omega)
  rw [if_neg (by omega : ¬ 0 + 1 = 4)] at s0
  cases h0 : nmA (chr w m) q 44 with
  | none => exact Or.inl ⟨s0.1 h0, fun a1 a2 a3 v0 v1 v2 v3 q4 z => by cases z.1⟩
  | some x0 =>
    obtain ⟨v0, a1⟩ := x0
    have l1 := nmA_le (by decide) h0
    have s1 := rn_cls (pT12 hT 0 v0) (a := q) (n := 4) (k := 2) (e := 1) (q := a1) (by omega) (by omega) (by omega)
    rw [if_neg (by omega : ¬ 1 + 1 = 4)] at s1
    have t0 := s0.2 v0 a1 h0
    cases h1 : nmA (chr w m) a1 44 with
    | none => exact Or.inl ⟨t0.1.trans (s1.1 h1), fun b1 a2 a3 u0 v1 v2 v3 q4 z => by obtain ⟨-, rfl⟩ := some_inj2 z.1; rw [h1] at z; cases z.2.1⟩
    | some x1 =>
      obtain ⟨v1, a2⟩ := x1
      have l2 := nmA_le (by decide) h1
      have s2 := rn_cls (pT12 (pT12 hT 0 v0) 1 v1) (a := q) (n := 4) (k := 1) (e := 2) (q := a2) (by omega) (by omega) (by omega)
      rw [if_neg (by omega : ¬ 2 + 1 = 4)] at s2
      have t1 := s1.2 v1 a2 h1
      cases h2 : nmA (chr w m) a2 44 with
      | none => exact Or.inl ⟨t0.1.trans (t1.1.trans (s2.1 h2)), fun b1 b2 a3 u0 u1 v2 v3 q4 z => by obtain ⟨-, rfl⟩ := some_inj2 z.1; rw [h1] at z; obtain ⟨-, rfl⟩ := some_inj2 z.2.1; rw [h2] at z; cases z.2.2.1⟩
      | some x2 =>
        obtain ⟨v2, a3⟩ := x2
        have l3 := nmA_le (by decide) h2
        have s3 := rn_cls (pT12 (pT12 (pT12 hT 0 v0) 1 v1) 2 v2) (a := q) (n := 4) (k := 0) (e := 3) (q := a3) (by omega) (by omega) (by omega)
        rw [if_pos (by omega : 3 + 1 = 4)] at s3
        have t2 := s2.2 v2 a3 h2
        cases h3 : nmA (chr w m) a3 59 with
        | none => exact Or.inl ⟨t0.1.trans (t1.1.trans (t2.1.trans (s3.1 h3))), fun b1 b2 b3 u0 u1 u2 v3 q4 z => by obtain ⟨-, rfl⟩ := some_inj2 z.1; rw [h1] at z; obtain ⟨-, rfl⟩ := some_inj2 z.2.1; rw [h2] at z; obtain ⟨-, rfl⟩ := some_inj2 z.2.2.1; rw [h3] at z; cases z.2.2.2⟩
        | some x3 =>
          obtain ⟨v3, q4⟩ := x3
          have t3 := s3.2 v3 q4 h3
          exact Or.inr ⟨a1, a2, a3, v0, v1, v2, v3, q4, ⟨rfl, h1, h2, h3⟩, t0.1.trans (t1.1.trans (t2.1.trans t3.1)), t0.2.trans (t1.2.trans (t2.2.trans t3.2))⟩
theorem rn1 {w q : Nat} {s m : xMi} (hT : pT w s m) (hq : q < 1000) : (V_X5_readNumbers s q 1 = -4 ∧ nmA (chr w m) q 59 = none) ∨ (∃ v q', nmA (chr w m) q 59 = some (v, q') ∧ V_X5_readNumbers s q 1 = (q' : Int) ∧ S_X5_readNumbers s q 1 = x_up s 12 0 0 v) := by
  unfold V_X5_readNumbers S_X5_readNumbers
  have s0 := rn_cls hT (a := q) (n := 1) (k := 0) (e := 0) (q := q) (by omega) (by omega) (by omega)
  rw [if_pos (by omega : 0 + 1 = 1)] at s0
  cases h0 : nmA (chr w m) q 59 with
  | none => exact Or.inl ⟨s0.1 h0, rfl⟩
  | some x0 =>
    obtain ⟨v0, a1⟩ := x0
    have t0 := s0.2 v0 a1 h0
    exact Or.inr ⟨v0, a1, rfl, t0.1, t0.2⟩
/-- an item of the class's -/
theorem it_cls {w q r : Nat} {s m : xMi} (hT : pT w s m) (hq : q < 900) (hr : s 5 1 4 = (r : Int)) (hr6 : r ≤ 6) :
    (chr w m q = 112 ∧ ((∃ v0 v1 v2 v3 q4, OK4 (chr w m) r (q + 1) v0 v1 v2 v3 q4 ∧ V_X5_readItem s q 1 = (q4 : Int) ∧ ∃ s0, (∀ t i k, t ≠ 12 → s0 t i k = s t i k) ∧ S_X5_readItem s q 1 = x_up (x_up (x_up (x_up (x_up s0 6 1 r v0) 7 1 r v1) 8 1 r v2) 9 1 r v3) 5 1 4 ((r : Int) + 1)) ∨ ((∀ v0 v1 v2 v3 q4, ¬ OK4 (chr w m) r (q + 1) v0 v1 v2 v3 q4) ∧ V_X5_readItem s q 1 = -4))) ∨
    (chr w m q = 104 ∧ ((∃ v q', OK1 (chr w m) (q + 1) v q' ∧ V_X5_readItem s q 1 = (q' : Int) ∧ ∃ s0, (∀ t i k, t ≠ 12 → s0 t i k = s t i k) ∧ S_X5_readItem s q 1 = x_up s0 5 1 5 v) ∨ ((∀ v q', ¬ OK1 (chr w m) (q + 1) v q') ∧ V_X5_readItem s q 1 = -4))) ∨
    (chr w m q ≠ 112 ∧ chr w m q ≠ 104 ∧ V_X5_readItem s q 1 = -4) := by
  have hc := chr_in hT q
  have hw := hT.1
  have l0 := l_at hT (a := q) (by omega)
  have ew : x_wr (V_X5_letterAt s q) = chr w m q := by rw [l0]; exact x_wrs (by omega) (by omega)
  have n4 : ¬ (0 : Int) ≤ x_wr (-4) := by decide
  by_cases c1 : chr w m q = 112
  · refine Or.inl ⟨c1, ?_⟩
    have eV : V_X5_readItem s q 1 = (if 0 ≤ x_wr (V_X5_readNumbers s (q + 1) 4) then (if x_wr (V_X3_addPerson (S_X5_readNumbers s (q + 1) 4) 1 ((S_X5_readNumbers s (q + 1) 4) 12 0 0) ((S_X5_readNumbers s (q + 1) 4) 12 0 1) ((S_X5_readNumbers s (q + 1) 4) 12 0 2) ((S_X5_readNumbers s (q + 1) 4) 12 0 3) (s 5 1 4).toNat) = 0 then (-4) else (V_X5_readNumbers s (q + 1) 4)) else (-4)) := by
      have c1' : x_wr (V_X5_letterAt s q) = x_wr 112 := by rw [ew, xw112]; exact c1
      unfold V_X5_readItem
      simp only [if_pos c1']
    have eS : 0 ≤ x_wr (V_X5_readNumbers s (q + 1) 4) → S_X5_readItem s q 1 = S_X3_addPerson (S_X5_readNumbers s (q + 1) 4) 1 ((S_X5_readNumbers s (q + 1) 4) 12 0 0) ((S_X5_readNumbers s (q + 1) 4) 12 0 1) ((S_X5_readNumbers s (q + 1) 4) 12 0 2) ((S_X5_readNumbers s (q + 1) 4) 12 0 3) (s 5 1 4).toNat := by
      intro h0
      have c1' : x_wr (V_X5_letterAt s q) = x_wr 112 := by rw [ew, xw112]; exact c1
      unfold S_X5_readItem
      simp only [if_pos c1', if_pos h0]
      split <;> rfl
    rcases rn4 hT (q := q + 1) (by omega) with ⟨z1, z2⟩ | ⟨a1, a2, a3, v0, v1, v2, v3, q4, zz, z3, z4⟩
    · right
      refine ⟨fun v0 v1 v2 v3 q4 ⟨_, a1, a2, a3, e1, e2, e3, e4, _⟩ => z2 a1 a2 a3 v0 v1 v2 v3 q4 ⟨e1, e2, e3, e4⟩, ?_⟩
      rw [eV, z1, if_neg n4]
    · have hq4 := nmA_le (by decide) zz.2.2.2
      have b0 := nmA_some zz.1
      have b1 := nmA_some zz.2.1
      have b2 := nmA_some zz.2.2.1
      have b3 := nmA_some zz.2.2.2
      have p0 : 0 ≤ x_wr (V_X5_readNumbers s (q + 1) 4) := by rw [z3, x_nat (by omega)]; omega
      have r12 : ∀ j, (x_up (x_up (x_up (x_up s 12 0 0 v0) 12 0 1 v1) 12 0 2 v2) 12 0 3 v3) 5 1 j = s 5 1 j := fun j => by rw [x_up_k (by omega), x_up_k (by omega), x_up_k (by omega), x_up_k (by omega)]
      have g0 : (x_up (x_up (x_up (x_up s 12 0 0 v0) 12 0 1 v1) 12 0 2 v2) 12 0 3 v3) 12 0 0 = v0 := by rw [x_up_k (by omega), x_up_k (by omega), x_up_k (by omega), x_up_y rfl]
      have g1 : (x_up (x_up (x_up (x_up s 12 0 0 v0) 12 0 1 v1) 12 0 2 v2) 12 0 3 v3) 12 0 1 = v1 := by rw [x_up_k (by omega), x_up_k (by omega), x_up_y rfl]
      have g2 : (x_up (x_up (x_up (x_up s 12 0 0 v0) 12 0 1 v1) 12 0 2 v2) 12 0 3 v3) 12 0 2 = v2 := by rw [x_up_k (by omega), x_up_y rfl]
      have g3 : (x_up (x_up (x_up (x_up s 12 0 0 v0) 12 0 1 v1) 12 0 2 v2) 12 0 3 v3) 12 0 3 = v3 := by rw [x_up_y rfl]
      have eV' := eV
      rw [if_pos p0, z4, g0, g1, g2, g3, hr, Int.toNat_natCast, z3] at eV'
      have eS' := eS p0
      rw [z4, g0, g1, g2, g3, hr, Int.toNat_natCast] at eS'
      by_cases ok : r < 6 ∧ v0 ≤ 3 ∧ v1 ≤ 40 ∧ v2 ≤ 40 ∧ 1 ≤ v3 ∧ v3 ≤ 9
      · left
        have k1 : ¬ (6 : Int) ≤ (r : Int) := by omega
        have k2 : ¬ (4 : Int) ≤ v0 := by omega
        have k3 : ¬ (40 : Int) < v1 := by omega
        have k4 : ¬ (40 : Int) < v2 := by omega
        have k5 : ¬ v3 < 1 := by omega
        have k6 : v3 ≤ 9 := by omega
        refine ⟨v0, v1, v2, v3, q4, ⟨ok.1, a1, a2, a3, zz.1, zz.2.1, zz.2.2.1, zz.2.2.2, ok.2⟩, ?_, x_up (x_up (x_up (x_up s 12 0 0 v0) 12 0 1 v1) 12 0 2 v2) 12 0 3 v3, fun t i k ht => by rw [x_up_k (by omega), x_up_k (by omega), x_up_k (by omega), x_up_k (by omega)], ?_⟩
        · rw [eV']
          unfold V_X3_addPerson
          rw [r12, hr, xw6, xw4, xw40, xw1, xw9, x_nat (by omega : r < 2147483648), x_wrs (a := v0) (by omega) (by omega), x_wrs (a := v1) (by omega) (by omega), x_wrs (a := v2) (by omega) (by omega), x_wrs (a := v3) (by omega) (by omega), if_neg k1, if_neg k2, if_neg k3, if_neg k4, if_neg k5, if_pos k6, if_neg n1w]
        · rw [eS']
          unfold S_X3_addPerson
          rw [r12, hr, xw6, xw4, xw40, xw1, xw9, x_nat (by omega : r < 2147483648), x_wrs (a := v0) (by omega) (by omega), x_wrs (a := v1) (by omega) (by omega), x_wrs (a := v2) (by omega) (by omega), x_wrs (a := v3) (by omega) (by omega), if_neg k1, if_neg k2, if_neg k3, if_neg k4, if_neg k5, if_pos k6]
          congr 1
          rw [x_up_k (by omega), x_up_k (by omega), x_up_k (by omega), x_up_k (by omega), r12, hr]
      · right
        refine ⟨fun u0 u1 u2 u3 p4 ⟨hr', a1', a2', a3', e1, e2, e3, e4, e5⟩ => ok ?_, ?_⟩
        · obtain ⟨rfl, rfl⟩ := some_inj2 (e1.symm.trans zz.1)
          obtain ⟨rfl, rfl⟩ := some_inj2 (e2.symm.trans zz.2.1)
          obtain ⟨rfl, rfl⟩ := some_inj2 (e3.symm.trans zz.2.2.1)
          obtain ⟨rfl, rfl⟩ := some_inj2 (e4.symm.trans zz.2.2.2)
          exact ⟨hr', e5⟩
        · rw [eV']
          have : V_X3_addPerson (x_up (x_up (x_up (x_up s 12 0 0 v0) 12 0 1 v1) 12 0 2 v2) 12 0 3 v3) 1 v0 v1 v2 v3 r = 0 := by
            unfold V_X3_addPerson
            rw [r12, hr, xw6, xw4, xw40, xw1, xw9, x_nat (by omega : r < 2147483648), x_wrs (a := v0) (by omega) (by omega), x_wrs (a := v1) (by omega) (by omega), x_wrs (a := v2) (by omega) (by omega), x_wrs (a := v3) (by omega) (by omega)]
            (repeat' split) <;> first | rfl | omega
          rw [this, xw0, if_pos rfl]
  · right
    have c1' : ¬ x_wr (V_X5_letterAt s q) = x_wr 112 := by rw [ew, xw112]; exact c1
    by_cases c2 : chr w m q = 104
    · have c2' : x_wr (V_X5_letterAt s q) = x_wr 104 := by rw [ew, xw104]; exact c2
      refine Or.inl ⟨c2, ?_⟩
      have eV : V_X5_readItem s q 1 = (if 0 ≤ x_wr (V_X5_readNumbers s (q + 1) 1) then (if x_wr (V_X3_setStock (S_X5_readNumbers s (q + 1) 1) 1 ((S_X5_readNumbers s (q + 1) 1) 12 0 0)) = 0 then (-4) else (V_X5_readNumbers s (q + 1) 1)) else (-4)) := by
        unfold V_X5_readItem
        simp only [if_neg c1', if_pos c2']
      have eS : 0 ≤ x_wr (V_X5_readNumbers s (q + 1) 1) → S_X5_readItem s q 1 = S_X3_setStock (S_X5_readNumbers s (q + 1) 1) 1 ((S_X5_readNumbers s (q + 1) 1) 12 0 0) := by
        intro h0
        unfold S_X5_readItem
        simp only [if_neg c1', if_pos c2', if_pos h0]
        split <;> rfl
      rcases rn1 hT (q := q + 1) (by omega) with ⟨z1, z2⟩ | ⟨v, q', zz, z3, z4⟩
      · right
        refine ⟨fun v q' z => (by have z' := z.1; rw [z2] at z'; cases z'), ?_⟩
        rw [eV, z1, if_neg n4]
      · have hq4 := nmA_le (by decide) zz
        have b0 := nmA_some zz
        have p0 : 0 ≤ x_wr (V_X5_readNumbers s (q + 1) 1) := by rw [z3, x_nat (by omega)]; omega
        have eV' := eV
        rw [if_pos p0, z4, x_up_y rfl, z3] at eV'
        have eS' := eS p0
        rw [z4, x_up_y rfl] at eS'
        by_cases ok : v ≤ 20
        · left
          refine ⟨v, q', ⟨zz, ok⟩, ?_, x_up s 12 0 0 v, fun t i k ht => x_up_k (by omega), ?_⟩
          · rw [eV']
            unfold V_X3_setStock
            rw [xw20, x_wrs (a := v) (by omega) (by omega), if_pos ok, if_neg n1w]
          · rw [eS']
            unfold S_X3_setStock
            rw [xw20, x_wrs (a := v) (by omega) (by omega), if_pos ok]
        · right
          refine ⟨fun u p z => ok (by obtain ⟨rfl, rfl⟩ := some_inj2 (z.1.symm.trans zz); exact z.2), ?_⟩
          rw [eV']
          unfold V_X3_setStock
          rw [xw20, x_wrs (a := v) (by omega) (by omega), if_neg ok, if_pos xw0]
    · have c2' : ¬ x_wr (V_X5_letterAt s q) = x_wr 104 := by rw [ew, xw104]; exact c2
      refine Or.inr ⟨c1, c2, ?_⟩
      unfold V_X5_readItem
      simp only [if_neg c1', if_neg c2']
