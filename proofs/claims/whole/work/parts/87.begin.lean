/-! both memories behind the two constructors -/
def ltr (k : Nat) : Int := x_chr (x_ca k)
def x_T0 : xMi := fun t i k => if t = 10 ∧ i = 0 ∧ k = 2 then 51 else if t = 11 ∧ i = 0 ∧ k < 51 then ltr k else x_b4 t i k
theorem aps_cl : ∀ (m j : Nat) (σ : xMi), j + m ≤ 51 → σ 10 0 2 = (j : Int) → ∀ t i k, x_aps m j σ t i k = if t = 10 ∧ i = 0 ∧ k = 2 then ((j + m : Nat) : Int) else if t = 11 ∧ i = 0 ∧ j ≤ k ∧ k < j + m then ltr k else σ t i k
  | 0, j, σ, hm, h2 => by
    intro t i k
    show σ t i k = _
    split
    · rename_i z; rw [z.1, z.2.1, z.2.2, h2]; rfl
    · rw [if_neg (by omega)]
  | m + 1, j, σ, hm, h2 => by
    intro t i k
    show x_aps m (j + 1) (S_X5_append σ (x_ca j) j) t i k = _
    rw [aps_cl m (j + 1) _ (by omega) (aps_2 (by omega) h2)]
    have e : S_X5_append σ (x_ca j) j = x_up (x_up σ 11 0 j (ltr j)) 10 0 2 ((j : Int) + 1) := by
      unfold S_X5_append
      have w2 : x_wr 200 = 200 := by decide +kernel
      rw [h2, x_nat (by omega), w2, if_neg (by omega), x_up_o (by omega), h2]
      rfl
    by_cases c1 : t = 10 ∧ i = 0 ∧ k = 2
    · rw [if_pos c1, if_pos c1]; congr 1; omega
    · rw [if_neg c1, if_neg c1]
      by_cases c2 : t = 11 ∧ i = 0 ∧ j + 1 ≤ k ∧ k < j + 1 + m
      · rw [if_pos c2, if_pos (by omega)]
      · rw [if_neg c2, e, x_up_k (by omega)]
        by_cases c3 : t = 11 ∧ i = 0 ∧ k = j
        · rw [if_pos (by omega), c3.1, c3.2.1, c3.2.2, x_up_y rfl]
        · rw [if_neg (by omega), x_up_k (by omega)]
theorem aps_T0 : x_aps 51 0 x_b4 = x_T0 := by
  funext t i k
  rw [aps_cl 51 0 x_b4 (by decide) (by rw [x_b4, x_up_o (by decide)]; exact b3_z (by decide)) t i k]
  unfold x_T0
  simp only [Nat.zero_le, true_and, Nat.zero_add]
  rfl
theorem b4_z {t i k : Nat} (h : t ≠ 5) (h2 : ¬ (t = 19 ∧ i = 0 ∧ k = 4)) : x_b4 t i k = 0 := by
  unfold x_b4; rw [x_up_k h2]; exact b3_z h
theorem T0_11 (k : Nat) : 0 ≤ x_T0 11 0 k ∧ x_T0 11 0 k < 65536 := by
  unfold x_T0
  rw [if_neg (by omega)]
  split
  · exact x_chr_in _
  · rw [b4_z (by omega) (by omega)]; omega
theorem T0_z {t i k : Nat} (h : ¬ (t = 5 ∨ t = 10 ∨ t = 11 ∨ t = 19)) : x_T0 t i k = 0 := by
  unfold x_T0
  rw [if_neg (by omega), if_neg (by omega)]
  exact b4_z (by omega) (by omega)
def m_0 : xMi := fun t _ k => if t = 24 then 51 else if t = 40 then ltr k else 0
def pj (a j : Nat) : Int := (([[0, 1, 2, 3, 0], [5, 12, 33, 20, 0], [6, 5, 9, 8, 2], [4, 7, 3, 9, 2]] : List (List Int)).getD a []).getD j 0
def rdI (r : Nat) (st : Int) (s : xMi) : Prop := pT 51 s m_0 ∧ s 5 1 4 = (r : Int) ∧ s 5 1 5 = st ∧ ∀ j, j < r → s 6 1 j = pj 0 j ∧ s 7 1 j = pj 1 j ∧ s 8 1 j = pj 2 j ∧ s 9 1 j = pj 3 j
theorem st4 {r q q4 k e : Nat} {st : Int} {s : xMi} (h : rdI r st s) (hq : q < 51) (hr : r ≤ 5) (hc : chr 51 m_0 q = 112) (ok : OK4 (chr 51 m_0) r (q + 1) (pj 0 r) (pj 1 r) (pj 2 r) (pj 3 r) q4) (h4 : q4 < 1000) : ∃ s', rdI (r + 1) st s' ∧ RS_X5_readInto_8 1 (k + 1) e s q = RS_X5_readInto_8 1 k (e + 1) s' q4 := by
  obtain ⟨hT, h1, h2, h3⟩ := h
  rcases it_cls hT (by omega : q < 900) h1 (by omega) with ⟨_, ⟨v0, v1, v2, v3, p4, o, hV, s0, hs0, hS⟩ | ⟨no, _⟩⟩ | ⟨n, _⟩ | ⟨n, _⟩
  · obtain ⟨rfl, rfl, rfl, rfl, rfl⟩ := OK4_uniq ok o
    refine ⟨x_up (x_up (x_up (x_up (x_up s0 6 1 r (pj 0 r)) 7 1 r (pj 1 r)) 8 1 r (pj 2 r)) 9 1 r (pj 3 r)) 5 1 4 ((r : Int) + 1), ?_, ?_⟩
    · refine ⟨hT.c (fun t j hj => ?_) rfl (fun _ => rfl), by rw [x_up_y rfl]; rfl, ?_, fun j hj => ?_⟩
      · rw [x_up_k (by omega), x_up_k (by omega), x_up_k (by omega), x_up_k (by omega), x_up_k (by omega), hs0 _ _ _ (by omega)]
      · rw [x_up_k (by omega), x_up_k (by omega), x_up_k (by omega), x_up_k (by omega), x_up_k (by omega), hs0 _ _ _ (by omega)]; exact h2
      · by_cases c : j = r
        · subst c
          simp [x_up]
        · have := h3 j (by omega)
          rw [x_up_k (by omega), x_up_k (by omega), x_up_k (by omega), x_up_k (by omega), x_up_k (by omega), hs0 _ _ _ (by omega), x_up_k (by omega), x_up_k (by omega), x_up_k (by omega), x_up_k (by omega), x_up_k (by omega), hs0 _ _ _ (by omega), x_up_k (by omega), x_up_k (by omega), x_up_k (by omega), x_up_k (by omega), x_up_k (by omega), hs0 _ _ _ (by omega), x_up_k (by omega), x_up_k (by omega), x_up_k (by omega), x_up_k (by omega), x_up_k (by omega), hs0 _ _ _ (by omega)]
          exact this
    · rw [← hS]
      show (if _ then _ else _) = _
      have p0 : (0 : Int) ≤ x_wr ((q4 : Nat) : Int) := by rw [x_nat (by omega)]; omega
      have c : ¬ x_wr (s 10 0 2) ≤ x_wr ((q : Nat) : Int) := by rw [hT.2.1, x_nat (by omega), x_nat (by omega)]; omega
      rw [if_neg c, hV, if_pos p0, Int.toNat_natCast]
  · exact absurd ok (no _ _ _ _ _)
  · rw [hc] at n; omega
  · exact absurd hc n
theorem st1 {r q q4 k e : Nat} {st v : Int} {s : xMi} (h : rdI r st s) (hq : q < 51) (hr : r ≤ 5) (hc : chr 51 m_0 q = 104) (ok : OK1 (chr 51 m_0) (q + 1) v q4) (h4 : q4 < 1000) : ∃ s', rdI r v s' ∧ RS_X5_readInto_8 1 (k + 1) e s q = RS_X5_readInto_8 1 k (e + 1) s' q4 := by
  obtain ⟨hT, h1, h2, h3⟩ := h
  rcases it_cls hT (by omega : q < 900) h1 (by omega) with ⟨n, _⟩ | ⟨_, ⟨v', p4, o, hV, s0, hs0, hS⟩ | ⟨no, _⟩⟩ | ⟨_, n, _⟩
  · rw [hc] at n; omega
  · obtain ⟨rfl, rfl⟩ := some_inj2 (ok.1.symm.trans o.1)
    refine ⟨x_up s0 5 1 5 v, ?_, ?_⟩
    · refine ⟨hT.c (fun t j hj => ?_) rfl (fun _ => rfl), ?_, by rw [x_up_y rfl], fun j hj => ?_⟩
      · rw [x_up_k (by omega), hs0 _ _ _ (by omega)]
      · rw [x_up_k (by omega), hs0 _ _ _ (by omega)]; exact h1
      · rw [x_up_k (by omega), hs0 _ _ _ (by omega), x_up_k (by omega), hs0 _ _ _ (by omega), x_up_k (by omega), hs0 _ _ _ (by omega), x_up_k (by omega), hs0 _ _ _ (by omega)]; exact h3 j hj
    · rw [← hS]
      show (if _ then _ else _) = _
      have p0 : (0 : Int) ≤ x_wr ((q4 : Nat) : Int) := by rw [x_nat (by omega)]; omega
      have c : ¬ x_wr (s 10 0 2) ≤ x_wr ((q : Nat) : Int) := by rw [hT.2.1, x_nat (by omega), x_nat (by omega)]; omega
      rw [if_neg c, hV, if_pos p0, Int.toNat_natCast]
  · exact absurd ok (no _ _)
  · exact absurd hc n
theorem rd_all : rdI 5 4 (S_X5_readInto x_T0 1) := by
  have h0 : rdI 0 3 (S_X3_clear x_T0 1) := by
    refine ⟨⟨by decide, ?_, rfl, fun k hk => ?_, fun k => ?_⟩, ?_, ?_, fun j hj => by omega⟩
    · unfold S_X3_clear; rw [x_up_k (by omega), x_up_k (by omega)]; rfl
    · unfold S_X3_clear; rw [x_up_k (by omega), x_up_k (by omega)]
      unfold x_T0; rw [if_neg (by omega), if_pos (by omega)]; rfl
    · unfold S_X3_clear; rw [x_up_k (by omega), x_up_k (by omega)]; exact T0_11 k
    · unfold S_X3_clear; rw [x_up_k (by omega), x_up_y rfl]; rfl
    · unfold S_X3_clear; rw [x_up_y rfl]
  unfold S_X5_readInto
  obtain ⟨s1, h1, e1⟩ := st4 (q := 0) (q4 := 9) (k := 199) (e := 0) h0 (by decide) (by decide) (by decide +kernel) ⟨by decide, 3, 5, 7, by decide +kernel, by decide +kernel, by decide +kernel, by decide +kernel, by decide +kernel, by decide +kernel, by decide +kernel, by decide +kernel, by decide +kernel⟩ (by decide)
  obtain ⟨s2, h2, e2⟩ := st4 (q := 9) (q4 := 19) (k := 198) (e := 1) h1 (by decide) (by decide) (by decide +kernel) ⟨by decide, 12, 15, 17, by decide +kernel, by decide +kernel, by decide +kernel, by decide +kernel, by decide +kernel, by decide +kernel, by decide +kernel, by decide +kernel, by decide +kernel⟩ (by decide)
  obtain ⟨s3, h3, e3⟩ := st4 (q := 19) (q4 := 29) (k := 197) (e := 2) h2 (by decide) (by decide) (by decide +kernel) ⟨by decide, 22, 25, 27, by decide +kernel, by decide +kernel, by decide +kernel, by decide +kernel, by decide +kernel, by decide +kernel, by decide +kernel, by decide +kernel, by decide +kernel⟩ (by decide)
  obtain ⟨s4, h4, e4⟩ := st4 (q := 29) (q4 := 39) (k := 196) (e := 3) h3 (by decide) (by decide) (by decide +kernel) ⟨by decide, 32, 35, 37, by decide +kernel, by decide +kernel, by decide +kernel, by decide +kernel, by decide +kernel, by decide +kernel, by decide +kernel, by decide +kernel, by decide +kernel⟩ (by decide)
  obtain ⟨s5, h5, e5⟩ := st4 (q := 39) (q4 := 48) (k := 195) (e := 4) h4 (by decide) (by decide) (by decide +kernel) ⟨by decide, 42, 44, 46, by decide +kernel, by decide +kernel, by decide +kernel, by decide +kernel, by decide +kernel, by decide +kernel, by decide +kernel, by decide +kernel, by decide +kernel⟩ (by decide)
  obtain ⟨s6, h6, e6⟩ := st1 (q := 48) (q4 := 51) (k := 194) (e := 5) (v := 4) h5 (by decide) (by decide) (by decide +kernel) ⟨by decide +kernel, by decide +kernel⟩ (by decide)
  rw [e1, e2, e3, e4, e5, e6]
  have e7 : RS_X5_readInto_8 1 194 6 s6 51 = s6 := by
    show (if _ then _ else _) = _
    rw [if_pos (by rw [h6.1.2.1]; exact Int.le_refl _)]
  rw [e7]
  exact h6
