/-- a number is read and laid down -/
theorem stp {w q : Nat} {M : xMi} {lo hi en : Int} {v : Int} {q' i : Nat} (h : rdA w q M) (hq : q < 100000) (hch : ∀ k, 0 ≤ chr w M k ∧ chr w M k < 65536) (hlo : 0 ≤ lo ∧ lo ≤ 100) (hhi : 0 ≤ hi ∧ hi ≤ 100) (hen : en = 44 ∨ en = 59) (hn : nmA (chr w M) q en = some (v, q')) (hv : lo ≤ v ∧ v ≤ hi) : rdA w q' (x_up (S_X7_number M lo hi en) 41 0 i (S_X7_number M lo hi en 24 0 27)) ∧ q' ≤ w ∧ chr w (x_up (S_X7_number M lo hi en) 41 0 i (S_X7_number M lo hi en 24 0 27)) = chr w M ∧ x_up (S_X7_number M lo hi en) 41 0 i (S_X7_number M lo hi en 24 0 27) 41 0 i = v ∧ ∀ t i' k, ¬ (t = 24 ∧ (k = 23 ∨ k = 27)) → ¬ (t = 41 ∧ i' = 0 ∧ k = i) → x_up (S_X7_number M lo hi en) 41 0 i (S_X7_number M lo hi en 24 0 27) t i' k = M t i' k := by
  have hr := (rn_ref h hq hch hlo hhi hen).2 v q' hn
  have hr2 := hr.2 hv
  have hle := nmA_le (by rcases hen with e | e <;> rw [e] <;> decide) hn
  have f : ∀ t i' k, ¬ (t = 24 ∧ (k = 23 ∨ k = 27)) → ¬ (t = 41 ∧ i' = 0 ∧ k = i) → x_up (S_X7_number M lo hi en) 41 0 i (S_X7_number M lo hi en 24 0 27) t i' k = M t i' k := fun t i' k h1 h2 => by rw [x_up_k h2, fr_S_X7_number _ _ _ _ h1]
  refine ⟨⟨by rw [f _ _ _ (by omega) (by omega)]; exact h.1, by rw [x_up_k (by omega)]; exact hr2.1, h.2.2.1, by have := h.2.2.1; omega⟩, hle, chr_cong (fun k => f _ _ _ (by omega) (by omega)), by rw [x_up_y rfl]; exact hr2.2, f⟩
theorem V_num {w q : Nat} {M : xMi} {lo hi en : Int} (h : rdA w q M) (hq : q < 100000) (hch : ∀ k, 0 ≤ chr w M k ∧ chr w M k < 65536) (hlo : 0 ≤ lo ∧ lo ≤ 100) (hhi : 0 ≤ hi ∧ hi ≤ 100) (hen : en = 44 ∨ en = 59) : (x_wr (V_X7_number M lo hi en) = 0 ∧ ∀ v q', nmA (chr w M) q en = some (v, q') → ¬ (lo ≤ v ∧ v ≤ hi)) ∨ (¬ x_wr (V_X7_number M lo hi en) = 0 ∧ ∃ v q', nmA (chr w M) q en = some (v, q') ∧ lo ≤ v ∧ v ≤ hi) := by
  have hr := rn_ref h hq hch hlo hhi hen
  cases e : nmA (chr w M) q en with
  | none => exact Or.inl ⟨by rw [hr.1 e]; exact xw0, fun v q' z => by cases z⟩
  | some x =>
    obtain ⟨v, q'⟩ := x
    have h2 := (hr.2 v q' e).1
    by_cases c : lo ≤ v ∧ v ≤ hi
    · exact Or.inr ⟨by rw [h2]; exact fun z => i01.mp z c, v, q', rfl, c⟩
    · exact Or.inl ⟨by rw [h2]; exact i01.mpr c, fun u p z => by obtain ⟨rfl, rfl⟩ := some_inj2 z; exact c⟩
/-- a person's item of the reference's -/
theorem r1_ref {w q r : Nat} {m : xMi} (h : rdA w q m) (hq : q < 1000) (hch : ∀ k, 0 ≤ chr w m k ∧ chr w m k < 65536) (hr : m 24 0 24 = (r : Int)) (hr6 : r ≤ 6) :
    (V_X7_readsOne m = 1 ∧ ∃ v0 v1 v2 v3 q4, OK4 (chr w m) r q v0 v1 v2 v3 q4 ∧ rdA w q4 (S_X7_readsOne m) ∧ S_X7_readsOne m 24 0 24 = ((r + 1 : Nat) : Int) ∧ (S_X7_readsOne m 41 0 (4 * r) = v0 ∧ S_X7_readsOne m 41 0 (4 * r + 1) = v1 ∧ S_X7_readsOne m 41 0 (4 * r + 2) = v2 ∧ S_X7_readsOne m 41 0 (4 * r + 3) = v3) ∧ (∀ j, j < 4 * r → S_X7_readsOne m 41 0 j = m 41 0 j)) ∨ (V_X7_readsOne m = 0 ∧ ∀ v0 v1 v2 v3 q4, ¬ OK4 (chr w m) r q v0 v1 v2 v3 q4) := by
  have e6 : x_wr (m 24 0 24) = (r : Int) := by rw [hr]; exact x_nat (by omega)
  have et : (m 24 0 24).toNat = r := by rw [hr]; rfl
  unfold V_X7_readsOne S_X7_readsOne T_X7_readsOne_2 T_X7_readsOne_1
  rw [e6, xw6, et]
  by_cases c6 : (r : Int) = 6
  · right
    rw [if_pos c6]
    exact ⟨rfl, fun v0 v1 v2 v3 q4 z => by have := z.1; omega⟩
  · rw [if_neg c6]
    rcases V_num (lo := 0) (hi := 3) (en := 44) h (by omega) hch (by omega) (by omega) (Or.inl rfl) with ⟨d0, z0⟩ | ⟨d0, v0, a1, n0, b0⟩
    · right
      rw [if_pos d0]
      exact ⟨rfl, fun v0 v1 v2 v3 q4 ⟨_, a1, a2, a3, e1, e2, e3, e4, e5⟩ => z0 v0 a1 e1 ⟨(nmA_some e1).1, e5.1⟩⟩
    · rw [if_neg d0, if_neg c6, if_neg d0]
      obtain ⟨p1, p2, p3, p4, p5⟩ := stp (i := 4 * r) h (by omega) hch (by omega) (by omega) (Or.inl rfl) n0 b0
      generalize x_up (S_X7_number m 0 3 44) 41 0 (4 * r) (S_X7_number m 0 3 44 24 0 27) = A1 at *
      have hw := h.2.2.1
      rcases V_num (lo := 0) (hi := 40) (en := 44) p1 (by omega) (by rw [p3]; exact hch) (by omega) (by omega) (Or.inl rfl) with ⟨d1, z1⟩ | ⟨d1, v1, a2, n1, b1⟩
      · right
        rw [if_pos d1]
        exact ⟨rfl, fun u0 v1 v2 v3 q4 ⟨_, b1, a2, a3, e1, e2, e3, e4, e5⟩ => by
          obtain ⟨rfl, rfl⟩ := some_inj2 (e1.symm.trans n0)
          rw [← p3] at e2
          exact z1 v1 a2 e2 ⟨(nmA_some e2).1, e5.2.1⟩⟩
      · rw [if_neg d1, if_neg d1]
        obtain ⟨r1, r2, r3, r4, r5⟩ := stp (i := 4 * r + 1) p1 (by omega) (by rw [p3]; exact hch) (by omega) (by omega) (Or.inl rfl) n1 b1
        generalize x_up (S_X7_number A1 0 40 44) 41 0 (4 * r + 1) (S_X7_number A1 0 40 44 24 0 27) = A2 at *
        rcases V_num (lo := 0) (hi := 40) (en := 44) r1 (by omega) (by rw [r3, p3]; exact hch) (by omega) (by omega) (Or.inl rfl) with ⟨d2, z2⟩ | ⟨d2, v2, a3, n2, b2⟩
        · right
          rw [if_pos d2]
          exact ⟨rfl, fun u0 u1 v2 v3 q4 ⟨_, b1, b2, a3, e1, e2, e3, e4, e5⟩ => by
            obtain ⟨rfl, rfl⟩ := some_inj2 (e1.symm.trans n0)
            rw [p3] at n1
            obtain ⟨rfl, rfl⟩ := some_inj2 (e2.symm.trans n1)
            rw [← p3, ← r3] at e3
            exact z2 v2 a3 e3 ⟨(nmA_some e3).1, e5.2.2.1⟩⟩
        · rw [if_neg d2, if_neg d2]
          obtain ⟨t1, t2, t3, t4, t5⟩ := stp (i := 4 * r + 2) r1 (by omega) (by rw [r3, p3]; exact hch) (by omega) (by omega) (Or.inl rfl) n2 b2
          generalize x_up (S_X7_number A2 0 40 44) 41 0 (4 * r + 2) (S_X7_number A2 0 40 44 24 0 27) = A3 at *
          rcases V_num (lo := 1) (hi := 9) (en := 59) t1 (by omega) (by rw [t3, r3, p3]; exact hch) (by omega) (by omega) (Or.inr rfl) with ⟨d3, z3⟩ | ⟨d3, v3, q4, n3, b3⟩
          · right
            rw [if_pos d3]
            exact ⟨rfl, fun u0 u1 u2 v3 q4 ⟨_, b1, b2, b3, e1, e2, e3, e4, e5⟩ => by
              obtain ⟨rfl, rfl⟩ := some_inj2 (e1.symm.trans n0)
              rw [p3] at n1
              obtain ⟨rfl, rfl⟩ := some_inj2 (e2.symm.trans n1)
              rw [r3, p3] at n2
              obtain ⟨rfl, rfl⟩ := some_inj2 (e3.symm.trans n2)
              rw [← p3, ← r3, ← t3] at e4
              exact z3 v3 q4 e4 ⟨e5.2.2.2.1, e5.2.2.2.2⟩⟩
          · left
            rw [if_neg d3, if_neg d3]
            obtain ⟨k1, k2, k3, k4, k5⟩ := stp (i := 4 * r + 3) t1 (by omega) (by rw [t3, r3, p3]; exact hch) (by omega) (by omega) (Or.inr rfl) n3 b3
            generalize x_up (S_X7_number A3 1 9 59) 41 0 (4 * r + 3) (S_X7_number A3 1 9 59 24 0 27) = A4 at *
            rw [p3] at n1
            rw [r3, p3] at n2
            rw [t3, r3, p3] at n3
            have g24 : A4 24 0 24 = (r : Int) := by rw [k5 _ _ _ (by omega) (by omega), t5 _ _ _ (by omega) (by omega), r5 _ _ _ (by omega) (by omega), p5 _ _ _ (by omega) (by omega)]; exact hr
            rw [g24]
            refine ⟨rfl, v0, v1, v2, v3, q4, ⟨by omega, a1, a2, a3, n0, n1, n2, n3, b0.2, b1.2, b2.2, b3.1, b3.2⟩, ⟨by rw [x_up_k (by omega)]; exact k1.1, by rw [x_up_k (by omega)]; exact k1.2.1, k1.2.2⟩, by rw [x_up_y rfl]; omega, ⟨?_, ?_, ?_, ?_⟩, fun j hj => ?_⟩
            · rw [x_up_k (by omega), k5 _ _ _ (by omega) (by omega), t5 _ _ _ (by omega) (by omega), r5 _ _ _ (by omega) (by omega)]; exact p4
            · rw [x_up_k (by omega), k5 _ _ _ (by omega) (by omega), t5 _ _ _ (by omega) (by omega)]; exact r4
            · rw [x_up_k (by omega), k5 _ _ _ (by omega) (by omega)]; exact t4
            · rw [x_up_k (by omega)]; exact k4
            · rw [x_up_k (by omega), k5 _ _ _ (by omega) (by omega), t5 _ _ _ (by omega) (by omega), r5 _ _ _ (by omega) (by omega), p5 _ _ _ (by omega) (by omega)]
theorem rs_ref {w q : Nat} {m : xMi} (h : rdA w q m) (hq : q < 1000) (hch : ∀ k, 0 ≤ chr w m k ∧ chr w m k < 65536) : (V_X7_readsStock m = 1 ∧ ∃ v q', OK1 (chr w m) q v q' ∧ rdA w q' (S_X7_readsStock m) ∧ S_X7_readsStock m 24 0 25 = v) ∨ (V_X7_readsStock m = 0 ∧ ∀ v q', ¬ OK1 (chr w m) q v q') := by
  unfold V_X7_readsStock S_X7_readsStock
  rcases V_num (lo := 0) (hi := 20) (en := 59) h (by omega) hch (by omega) (by omega) (Or.inr rfl) with ⟨d0, z0⟩ | ⟨d0, v0, a1, n0, b0⟩
  · right
    rw [if_pos d0]
    exact ⟨rfl, fun v q' z => z0 v q' z.1 ⟨(nmA_some z.1).1, z.2⟩⟩
  · left
    rw [if_neg d0, if_neg d0]
    have hr := (rn_ref (lo := 0) (hi := 20) h (by omega) hch (by omega) (by omega) (Or.inr rfl)).2 v0 a1 n0
    have hr2 := hr.2 b0
    have hle := nmA_le (by decide) n0
    have hw := h.2.2.1
    refine ⟨rfl, v0, a1, ⟨n0, b0.2⟩, ⟨by rw [x_up_k (by omega), fr_S_X7_number _ _ _ _ (by omega)]; exact h.1, by rw [x_up_k (by omega)]; exact hr2.1, hw, by omega⟩, by rw [x_up_y rfl]; exact hr2.2⟩
/-- what is read so far -/
def dR (r : Nat) (s m : xMi) : Prop := r ≤ 6 ∧ s 5 1 4 = (r : Int) ∧ m 24 0 24 = (r : Int) ∧ s 5 1 5 = m 24 0 25 ∧ (0 ≤ m 24 0 25 ∧ m 24 0 25 ≤ 20) ∧ ∀ j, j < r → (s 6 1 j = m 41 0 (4 * j) ∧ s 7 1 j = m 41 0 (4 * j + 1) ∧ s 8 1 j = m 41 0 (4 * j + 2) ∧ s 9 1 j = m 41 0 (4 * j + 3)) ∧ (0 ≤ m 41 0 (4 * j) ∧ m 41 0 (4 * j) ≤ 3) ∧ (0 ≤ m 41 0 (4 * j + 1) ∧ m 41 0 (4 * j + 1) ≤ 40) ∧ (0 ≤ m 41 0 (4 * j + 2) ∧ m 41 0 (4 * j + 2) ≤ 40) ∧ (1 ≤ m 41 0 (4 * j + 3) ∧ m 41 0 (4 * j + 3) ≤ 9)
/-- an item is read alike -/
theorem item {w q r : Nat} {s m : xMi} (hT : pT w s m) (h : rdA w q m) (hq : q < 500) (hd : dR r s m) :
    (V_X5_readItem s q 1 = -4 ∧ V_X7_readsItem m = 0) ∨ (V_X7_readsItem m = 1 ∧ ∃ q' r', V_X5_readItem s q 1 = ((q' : Nat) : Int) ∧ q' ≤ w ∧ rdA w q' (S_X7_readsItem m) ∧ dR r' (S_X5_readItem s q 1) (S_X7_readsItem m)) := by
  obtain ⟨d1, d2, d3, d4, d5, d6⟩ := hd
  have hch := fun k => chr_in hT k
  have hc := hch q
  have e0 : x_wr (V_X7_here m) = chr w m q := by rw [here_at h]; exact x_wrs (by omega) (by omega)
  have m1 : rdA w (q + 1) (x_up m 24 0 23 ((m 24 0 23) + 1)) := ⟨by rw [x_up_k (by omega)]; exact h.1, by rw [x_up_y rfl, h.2.1]; omega, h.2.2.1, by omega⟩
  have hch1 : chr w (x_up m 24 0 23 ((m 24 0 23) + 1)) = chr w m := chr_cong (fun k => x_up_k (by omega))
  have f1 : ∀ t i k, ¬ (t = 24 ∧ k = 23) → x_up m 24 0 23 ((m 24 0 23) + 1) t i k = m t i k := fun t i k hne => x_up_k (by omega)
  unfold V_X7_readsItem S_X7_readsItem
  rw [e0, xw112, xw104]
  rcases it_cls (q := q) hT (by omega) d2 d1 with ⟨c, hh⟩ | ⟨c, hh⟩ | ⟨c1, c2, hh⟩
  · rw [if_pos c, if_pos c]
    have hr := r1_ref (r := r) m1 (by omega) (by rw [hch1]; exact hch) (by rw [f1 _ _ _ (by omega)]; exact d3) d1
    rw [hch1] at hr
    rcases hh with ⟨v0, v1, v2, v3, q4, ok, hV, s0, hs0, hS⟩ | ⟨nok, hV⟩
    · rcases hr with ⟨rV, w0, w1, w2, w3, p4, ok', rA', r24, r41, rlo⟩ | ⟨rV, nok⟩
      · right
        obtain ⟨rfl, rfl, rfl, rfl, rfl⟩ := OK4_uniq ok ok'
        have ok2 := ok
        obtain ⟨kr, a1, a2, a3, n0, n1, n2, n3, k0, k1, k2, k3, k4⟩ := ok2
        refine ⟨rV, q4, r + 1, hV, nmA_le (by decide) n3, rA', ?_⟩
        have fr : S_X7_readsOne (x_up m 24 0 23 ((m 24 0 23) + 1)) 24 0 25 = m 24 0 25 := by rw [fr_S_X7_readsOne _ (by omega), f1 _ _ _ (by omega)]
        generalize S_X7_readsOne (x_up m 24 0 23 ((m 24 0 23) + 1)) = B at *
        rw [hS]
        have g : ∀ t i k, t ≠ 12 → ¬ (t = 6 ∧ i = 1 ∧ k = r) → ¬ (t = 7 ∧ i = 1 ∧ k = r) → ¬ (t = 8 ∧ i = 1 ∧ k = r) → ¬ (t = 9 ∧ i = 1 ∧ k = r) → ¬ (t = 5 ∧ i = 1 ∧ k = 4) → x_up (x_up (x_up (x_up (x_up s0 6 1 r v0) 7 1 r v1) 8 1 r v2) 9 1 r v3) 5 1 4 ((r : Int) + 1) t i k = s t i k := fun t i k y0 y1 y2 y3 y4 y5 => by rw [x_up_k y5, x_up_k y4, x_up_k y3, x_up_k y2, x_up_k y1, hs0 _ _ _ y0]
        refine ⟨by omega, by rw [x_up_y rfl]; omega, r24, by rw [g _ _ _ (by omega) (by omega) (by omega) (by omega) (by omega) (by omega), fr]; exact d4, by rw [fr]; exact d5, fun j hj => ?_⟩
        by_cases e : j = r
        · subst e
          rw [r41.1, r41.2.1, r41.2.2.1, r41.2.2.2]
          refine ⟨⟨?_, ?_, ?_, ?_⟩, ⟨(nmA_some n0).1, k0⟩, ⟨(nmA_some n1).1, k1⟩, ⟨(nmA_some n2).1, k2⟩, ⟨k3, k4⟩⟩
          · rw [x_up_k (by omega), x_up_k (by omega), x_up_k (by omega), x_up_k (by omega), x_up_y rfl]
          · rw [x_up_k (by omega), x_up_k (by omega), x_up_k (by omega), x_up_y rfl]
          · rw [x_up_k (by omega), x_up_k (by omega), x_up_y rfl]
          · rw [x_up_k (by omega), x_up_y rfl]
        · have hj' : j < r := by omega
          have rl : ∀ i, i < 4 * r → B 41 0 i = m 41 0 i := fun i hi => (rlo i hi).trans (f1 _ _ _ (by omega))
          rw [g 6 1 j (by omega) (by omega) (by omega) (by omega) (by omega) (by omega), g 7 1 j (by omega) (by omega) (by omega) (by omega) (by omega) (by omega), g 8 1 j (by omega) (by omega) (by omega) (by omega) (by omega) (by omega), g 9 1 j (by omega) (by omega) (by omega) (by omega) (by omega) (by omega), rl _ (by omega), rl _ (by omega), rl _ (by omega), rl _ (by omega)]
          exact d6 j hj'
      · exact absurd ok (nok _ _ _ _ _)
    · left
      refine ⟨hV, ?_⟩
      rcases hr with ⟨rV, w0, w1, w2, w3, p4, ok', -⟩ | ⟨rV, -⟩
      · exact absurd ok' (nok _ _ _ _ _)
      · exact rV
  · have c' : ¬ chr w m q = 112 := by omega
    rw [if_neg c', if_neg c', if_pos c, if_pos c]
    have hr := rs_ref m1 (by omega) (by rw [hch1]; exact hch)
    rw [hch1] at hr
    rcases hh with ⟨v, q', ok, hV, s0, hs0, hS⟩ | ⟨nok, hV⟩
    · rcases hr with ⟨rV, v', p', ok', rA', r25⟩ | ⟨rV, nok⟩
      · right
        obtain ⟨rfl, rfl⟩ := some_inj2 (ok.1.symm.trans ok'.1)
        rw [rV, if_neg n1w, if_neg n1w]
        refine ⟨rfl, q', r, hV, nmA_le (by decide) ok.1, rA', ?_⟩
        have fr : ∀ t i k, ¬ (t = 24 ∧ (k = 23 ∨ k = 25 ∨ k = 27)) → S_X7_readsStock (x_up m 24 0 23 ((m 24 0 23) + 1)) t i k = m t i k := fun t i k hne => by rw [fr_S_X7_readsStock _ hne, f1 _ _ _ (by omega)]
        generalize S_X7_readsStock (x_up m 24 0 23 ((m 24 0 23) + 1)) = B at *
        rw [hS]
        have g : ∀ t i k, t ≠ 12 → ¬ (t = 5 ∧ i = 1 ∧ k = 5) → x_up s0 5 1 5 v t i k = s t i k := fun t i k y0 y1 => by rw [x_up_k y1, hs0 _ _ _ y0]
        refine ⟨d1, by rw [g _ _ _ (by omega) (by omega)]; exact d2, by rw [fr _ _ _ (by omega)]; exact d3, by rw [x_up_y rfl, r25], by rw [r25]; exact ⟨(nmA_some ok.1).1, ok.2⟩, fun j hj => ?_⟩
        rw [g 6 1 j (by omega) (by omega), g 7 1 j (by omega) (by omega), g 8 1 j (by omega) (by omega), g 9 1 j (by omega) (by omega), fr _ _ _ (by omega), fr _ _ _ (by omega), fr _ _ _ (by omega), fr _ _ _ (by omega)]
        exact d6 j hj
      · exact absurd ok (nok _ _)
    · left
      refine ⟨hV, ?_⟩
      rcases hr with ⟨rV, v', p', ok', -⟩ | ⟨rV, -⟩
      · exact absurd ok' (nok _ _)
      · rw [rV, if_pos xw0]
  · left
    rw [if_neg c1, if_neg c2]
    exact ⟨hh, rfl⟩
/-- the text is read alike -/
theorem read_loop {w : Nat} : ∀ (k e q r : Nat) (s m : xMi), q ≤ w → pT w s m → rdA w q m → dR r s m → RV_X5_readInto_8 1 k e s q = RV_X7_fault_15 k m ∧ (RV_X7_fault_15 k m = -4 → ∃ r', dR r' (RS_X5_readInto_8 1 k e s q) (RS_X7_fault_15 k m)) ∧ (-4 ≤ RV_X7_fault_15 k m ∧ RV_X7_fault_15 k m ≤ 200) := by
  intro k
  induction k with
  | zero => intro e q r s m _ _ _ hd; exact ⟨rfl, fun _ => ⟨r, hd⟩, by unfold RV_X7_fault_15; omega⟩
  | succ k ih =>
    intro e q r s m hqw hT h hd
    have hw := hT.1
    unfold RV_X5_readInto_8 RV_X7_fault_15 RS_X5_readInto_8 RS_X7_fault_15
    rw [hT.2.1, h.1, h.2.1, x_nat (by omega : w < 2147483648), x_nat (by omega : q < 2147483648)]
    by_cases c : (w : Int) ≤ (q : Int)
    · rw [if_pos c, if_pos c, if_pos c, if_pos c]
      exact ⟨rfl, fun _ => ⟨r, hd⟩, by omega⟩
    · rw [if_neg c, if_neg c, if_neg c, if_neg c]
      rcases item hT h (by omega) hd with ⟨y1, y2⟩ | ⟨y2, q', r', y1, y3, y4, y5⟩
      · have n4 : ¬ (0 : Int) ≤ x_wr (-4) := by decide
        rw [y1, y2, if_neg n4, if_pos xw0]
        exact ⟨rfl, fun z => by omega, by omega⟩
      · have p0 : (0 : Int) ≤ x_wr ((q' : Nat) : Int) := by rw [x_nat (by omega)]; omega
        rw [y1, y2, if_pos p0, if_pos p0, if_neg n1w, if_neg n1w, Int.toNat_natCast]
        refine ih (e + 1) q' r' _ _ y3 ?_ y4 y5
        exact hT.c (fun t j hj => fr_S_X5_readItem _ _ _ (by omega)) (fr_S_X7_readsItem _ (by omega)) (fun j => fr_S_X7_readsItem _ (by omega))
