theorem x_chr_id : ∀ k : Nat, k < 128 → x_chr (k : Int) = k := by decide +kernel
theorem xw32 : x_wr 32 = 32 := by decide
theorem xw126 : x_wr 126 = 126 := by decide
theorem m_write {K u τ v τ1 z w : Nat} {σ : xMi} (h : Rl K u τ v τ1 z w σ σ) {c1 : Int} (hw : x_wr c1 = c1) : V_X6_write σ c1 w = V_X7_write (S_X6_write σ c1 w) c1 w ∧ RR (S_X7_write (S_X6_write σ c1 w) c1 w) := by
  obtain ⟨hk, hg0, hU, hV, hZ, hT, hO⟩ := id h
  have hwl := hT.1
  have hc : x_wr (σ 10 0 2) = (w : Int) := by rw [hT.2.1]; exact x_wrs (by omega) (by omega)
  unfold V_X6_write S_X6_write
  rw [hw, xw32, xw126, xw200, hc]
  by_cases c : 32 ≤ c1 ∧ c1 ≤ 126
  · have c0 : ¬ c1 < 32 := by omega
    rw [if_neg c0, if_neg c0, if_pos c.2, if_pos c.2]
    by_cases d : (w : Int) < 200
    · rw [if_pos d, if_pos d]
      have e9 : ¬ (200 : Int) ≤ (w : Int) := by omega
      unfold V_X5_append S_X5_append
      rw [xw200, hc, if_neg e9, if_neg e9]
      have ech : x_chr c1 = c1 := by
        obtain ⟨k, rfl⟩ : ∃ k : Nat, c1 = k := ⟨c1.toNat, by omega⟩
        exact x_chr_id k (by omega)
      have e10 : x_up σ 11 0 w (x_chr c1) 10 0 2 = (w : Int) := by rw [x_up_k (by omega)]; exact hT.2.1
      rw [e10, ech]
      have hM : eM σ (x_up (x_up σ 11 0 w c1) 10 0 2 ((w : Int) + 1)) := fun t i k ht => by rw [x_up_k (by omega), x_up_k (by omega)]
      have h' := h.begun hM
      obtain ⟨hk', hg0', hU', hV', hZ', hT', hO'⟩ := h'
      have n1 : ¬ x_wr (V_X7_in (x_up (x_up σ 11 0 w c1) 10 0 2 ((w : Int) + 1)) c1 32 126) = 0 := by rw [v_in hw (by omega) (by omega), i01]; exact fun z => z c
      have n2 : ¬ x_wr (x_up (x_up σ 11 0 w c1) 10 0 2 ((w : Int) + 1) 24 0 22) = x_wr 200 := by rw [hT'.2.2.1, xw200, x_wrs (by omega) (by omega)]; omega
      unfold V_X7_write S_X7_write
      rw [if_neg n1, if_neg n1, if_neg n2, if_neg n2]
      have e22 : x_up (x_up (x_up σ 11 0 w c1) 10 0 2 ((w : Int) + 1)) 40 0 w c1 24 0 22 = (w : Int) := by rw [x_up_k (by omega)]; exact hT'.2.2.1
      rw [e22, x_up_y rfl, x_up_y rfl]
      refine ⟨rfl, K, u, τ, v, τ1, z, w + 1, Rl.done (s' := x_up (x_up σ 11 0 w c1) 10 0 2 ((w : Int) + 1)) ?_ (fun t i k ht => by rw [x_up_k (by omega), x_up_k (by omega)])⟩
      have fs : ∀ t i k, t ≠ 10 → t ≠ 11 → x_up (x_up σ 11 0 w c1) 10 0 2 ((w : Int) + 1) t i k = σ t i k := fun t i k h1 h2 => by rw [x_up_k (by omega), x_up_k (by omega)]
      have fm : ∀ t i k, t ≠ 40 → ¬ (t = 24 ∧ i = 0 ∧ k = 22) → x_up (x_up (x_up (x_up σ 11 0 w c1) 10 0 2 ((w : Int) + 1)) 40 0 w c1) 24 0 22 ((w : Int) + 1) t i k = x_up (x_up σ 11 0 w c1) 10 0 2 ((w : Int) + 1) t i k := fun t i k h1 h2 => by rw [x_up_k h2, x_up_k (by omega)]
      have hF : rF (x_up (x_up (x_up (x_up σ 11 0 w c1) 10 0 2 ((w : Int) + 1)) 40 0 w c1) 24 0 22 ((w : Int) + 1)) = rF (x_up (x_up σ 11 0 w c1) 10 0 2 ((w : Int) + 1)) := by
        funext j q; unfold rF; split
        · exact fm _ _ _ (by omega) (by omega)
        · rfl
      have hA : rA (x_up (x_up (x_up (x_up σ 11 0 w c1) 10 0 2 ((w : Int) + 1)) 40 0 w c1) 24 0 22 ((w : Int) + 1)) = rA (x_up (x_up σ 11 0 w c1) 10 0 2 ((w : Int) + 1)) := by
        funext j q; unfold rA
        split
        · exact fm _ _ _ (by omega) (by omega)
        · split
          · exact fm _ _ _ (by omega) (by omega)
          · rfl
      refine ⟨hk'.c (fun t k h1 h2 => fs _ _ _ (by omega) (by omega)) (fm _ _ _ (by omega) (by omega)) hF, by rw [hA]; exact hg0'.s (fun t ht k => fs _ _ _ (by omega) (by omega)) hF, hU'.c (by omega) (fun k => fs _ _ _ (by omega) (by omega)) (fun t i k h1 h2 h3 => fs _ _ _ (by omega) (by omega)) hF (fm _ _ _ (by omega) (by omega)) (fun k => fm _ _ _ (by omega) (by omega)), hV'.c (by omega) (fun k => fs _ _ _ (by omega) (by omega)) (fun t i k h1 h2 h3 => fs _ _ _ (by omega) (by omega)) hF (fm _ _ _ (by omega) (by omega)) (fun k => fm _ _ _ (by omega) (by omega)), hZ'.c (fun t k h1 h2 => fs _ _ _ (by omega) (by omega)) (fm _ _ _ (by omega) (by omega)) (fun t k h1 h2 => fm _ _ _ (by omega) (by omega)), ⟨by omega, by rw [x_up_y rfl]; omega, by rw [x_up_y rfl]; omega, fun k hkw => ?_, fun k => ?_⟩, hO'.c (fun k => fm _ _ _ (by omega) (by omega))⟩
      · have q1 : x_up (x_up σ 11 0 w c1) 10 0 2 ((w : Int) + 1) 11 0 k = x_up σ 11 0 w c1 11 0 k := x_up_k (by omega)
        have q2 : x_up (x_up (x_up (x_up σ 11 0 w c1) 10 0 2 ((w : Int) + 1)) 40 0 w c1) 24 0 22 ((w : Int) + 1) 40 0 k = x_up (x_up (x_up σ 11 0 w c1) 10 0 2 ((w : Int) + 1)) 40 0 w c1 40 0 k := x_up_k (by omega)
        rw [q2]
        by_cases ek : k = w
        · rw [q1, ek, x_up_y rfl, x_up_y rfl]
        · rw [x_up_k (by omega : ¬ (40 = 40 ∧ 0 = 0 ∧ k = w)), q1, x_up_k (by omega : ¬ (11 = 11 ∧ 0 = 0 ∧ k = w))]; exact hT'.2.2.2.1 k (by omega)
      · rw [x_up_k (by omega)]
        by_cases ek : k = w
        · subst ek; rw [x_up_y rfl]; omega
        · rw [x_up_k (by omega)]; exact hT.2.2.2.2 k
    · rw [if_neg d, if_neg d]
      have n1 : ¬ x_wr (V_X7_in σ c1 32 126) = 0 := by rw [v_in hw (by omega) (by omega), i01]; exact fun z => z c
      have n2 : x_wr (σ 24 0 22) = x_wr 200 := by rw [hT.2.2.1, xw200, x_wrs (by omega) (by omega)]; omega
      unfold V_X7_write S_X7_write
      rw [if_neg n1, if_neg n1, if_pos n2, if_pos n2]
      exact ⟨rfl, _, _, _, _, _, _, _, h⟩
  · have e1 : x_wr (V_X7_in σ c1 32 126) = 0 := by rw [v_in hw (by omega) (by omega), i01]; exact c
    by_cases c1' : c1 < 32
    · rw [if_pos c1', if_pos c1']
      unfold V_X7_write S_X7_write
      rw [if_pos e1, if_pos e1]
      exact ⟨rfl, _, _, _, _, _, _, _, h⟩
    · have c2 : ¬ c1 ≤ 126 := by omega
      rw [if_neg c1', if_neg c1', if_neg c2, if_neg c2]
      unfold V_X7_write S_X7_write
      rw [if_pos e1, if_pos e1]
      exact ⟨rfl, _, _, _, _, _, _, _, h⟩
theorem m_wipe {K u τ v τ1 z w : Nat} {σ : xMi} (h : Rl K u τ v τ1 z w σ σ) : V_X6_wipe σ = V_X7_wipe (S_X6_wipe σ) ∧ RR (S_X7_wipe (S_X6_wipe σ)) := by
  obtain ⟨hk, hg0, hU, hV, hZ, hT, hO⟩ := id h
  unfold V_X6_wipe S_X6_wipe V_X7_wipe S_X7_wipe V_X5_empty S_X5_empty
  have hM : eM σ (x_up σ 10 0 2 0) := fun t i k ht => x_up_k (by omega)
  have h' := h.begun hM
  obtain ⟨hk', hg0', hU', hV', hZ', hT', hO'⟩ := h'
  have fs : ∀ t i k, t ≠ 10 → x_up σ 10 0 2 0 t i k = σ t i k := fun t i k h1 => x_up_k (by omega)
  have fm : ∀ t i k, ¬ (t = 24 ∧ i = 0 ∧ k = 22) → x_up (x_up σ 10 0 2 0) 24 0 22 0 t i k = x_up σ 10 0 2 0 t i k := fun t i k h1 => x_up_k h1
  have hF : rF (x_up (x_up σ 10 0 2 0) 24 0 22 0) = rF (x_up σ 10 0 2 0) := by
    funext j q; unfold rF; split
    · exact fm _ _ _ (by omega)
    · rfl
  have hA : rA (x_up (x_up σ 10 0 2 0) 24 0 22 0) = rA (x_up σ 10 0 2 0) := by
    funext j q; unfold rA
    split
    · exact fm _ _ _ (by omega)
    · split
      · exact fm _ _ _ (by omega)
      · rfl
  refine ⟨?_, K, u, τ, v, τ1, z, 0, Rl.done (s' := x_up σ 10 0 2 0) ?_ (fun t i k ht => fm _ _ _ (by omega))⟩
  · rw [hT.2.1, hT'.2.2.1]
  · refine ⟨hk'.c (fun t k h1 h2 => fs _ _ _ (by omega)) (fm _ _ _ (by omega)) hF, by rw [hA]; exact hg0'.s (fun t ht k => fs _ _ _ (by omega)) hF, hU'.c (by omega) (fun k => fs _ _ _ (by omega)) (fun t i k h1 h2 h3 => fs _ _ _ (by omega)) hF (fm _ _ _ (by omega)) (fun k => fm _ _ _ (by omega)), hV'.c (by omega) (fun k => fs _ _ _ (by omega)) (fun t i k h1 h2 h3 => fs _ _ _ (by omega)) hF (fm _ _ _ (by omega)) (fun k => fm _ _ _ (by omega)), hZ'.c (fun t k h1 h2 => fs _ _ _ (by omega)) (fm _ _ _ (by omega)) (fun t k h1 h2 => fm _ _ _ (by omega)), ⟨by omega, by rw [x_up_y rfl]; rfl, by rw [x_up_y rfl]; rfl, fun k hkw => by omega, fun k => by rw [fs _ _ _ (by omega)]; exact hT.2.2.2.2 k⟩, hO'.c (fun k => fm _ _ _ (by omega))⟩
theorem m_forget {K u τ v τ1 z w : Nat} {σ : xMi} (h : Rl K u τ v τ1 z w σ σ) : V_X6_forget σ = V_X7_forget (S_X6_forget σ) ∧ RR (S_X7_forget (S_X6_forget σ)) := by
  obtain ⟨hk, hg0, hU, hV, hZ, hT, hO⟩ := id h
  unfold V_X6_forget S_X6_forget V_X7_forget S_X7_forget
  have hM : eM σ (x_up σ 15 0 3 0) := fun t i k ht => x_up_k (by omega)
  have h' := h.begun hM
  obtain ⟨hk', hg0', hU', hV', hZ', hT', hO'⟩ := h'
  have fs : ∀ t i k, ¬ (t = 15 ∧ i = 0 ∧ k = 3) → x_up σ 15 0 3 0 t i k = σ t i k := fun t i k h1 => x_up_k h1
  have fm : ∀ t i k, ¬ (t = 24 ∧ i = 0 ∧ k = 17) → x_up (x_up σ 15 0 3 0) 24 0 17 0 t i k = x_up σ 15 0 3 0 t i k := fun t i k h1 => x_up_k h1
  have hF : rF (x_up (x_up σ 15 0 3 0) 24 0 17 0) = rF (x_up σ 15 0 3 0) := by
    funext j q; unfold rF; split
    · exact fm _ _ _ (by omega)
    · rfl
  have hA : rA (x_up (x_up σ 15 0 3 0) 24 0 17 0) = rA (x_up σ 15 0 3 0) := by
    funext j q; unfold rA
    split
    · exact fm _ _ _ (by omega)
    · split
      · exact fm _ _ _ (by omega)
      · rfl
  refine ⟨?_, K, u, τ, v, τ1, 0, w, Rl.done (s' := x_up σ 15 0 3 0) ?_ (fun t i k ht => fm _ _ _ (by omega))⟩
  · rw [hZ.2.1, hZ'.2.2.1]
  · refine ⟨hk'.c (fun t k h1 h2 => fs _ _ _ (by omega)) (fm _ _ _ (by omega)) hF, by rw [hA]; exact hg0'.s (fun t ht k => fs _ _ _ (by omega)) hF, hU'.c (by omega) (fun k => fs _ _ _ (by omega)) (fun t i k h1 h2 h3 => fs _ _ _ (by omega)) hF (fm _ _ _ (by omega)) (fun k => fm _ _ _ (by omega)), hV'.c (by omega) (fun k => fs _ _ _ (by omega)) (fun t i k h1 h2 h3 => fs _ _ _ (by omega)) hF (fm _ _ _ (by omega)) (fun k => fm _ _ _ (by omega)), ⟨by omega, by rw [x_up_y rfl]; rfl, by rw [x_up_y rfl]; rfl, fun k hkw => by omega, fun k => by rw [fs _ _ _ (by omega)]; exact hZ.2.2.2.2.1 k, fun k => by rw [fs _ _ _ (by omega)]; exact hZ.2.2.2.2.2.1 k, fun k => by rw [fm _ _ _ (by omega), fs _ _ _ (by omega)]; exact hZ.2.2.2.2.2.2 k⟩, hT'.c (fun t k h1 => fs _ _ _ (by omega)) (fm _ _ _ (by omega)) (fun k => fm _ _ _ (by omega)), hO'.c (fun k => fm _ _ _ (by omega))⟩
theorem m_person {K u τ v τ1 z w : Nat} {σ : xMi} (h : Rl K u τ v τ1 z w σ σ) {p1 w1 : Int} (hw : x_wr p1 = p1) (hw1 : x_wr w1 = w1) : V_X6_person σ p1 w1 K = V_X7_person σ p1 w1 K := by
  obtain ⟨hk, hg0, -⟩ := id h
  have hK := hk.2.1
  have e1 := v_isPerson (σ := σ) hw hK hk.2.2.1
  have e3 := v_isOne (σ := σ) hw hK hk.2.2.2.1
  unfold V_X6_person V_X7_person
  rw [e1, e3, v_in hw1 (by omega) (by omega)]
  by_cases c : 0 ≤ p1 ∧ p1 < K
  · have hp : p1.toNat < K := by omega
    have n1 : ¬ x_wr (if 0 ≤ p1 ∧ p1 < (K : Int) then 1 else 0) = 0 := by rw [i01]; exact fun z => z c
    rw [if_neg n1, if_neg n1, hw1, xw10, xw4]
    by_cases d : 0 ≤ w1 ∧ w1 ≤ 10
    · have n2 : ¬ x_wr (if 0 ≤ w1 ∧ w1 ≤ 10 then 1 else 0) = 0 := by rw [i01]; exact fun z => z d
      have d0 : ¬ w1 < 0 := by omega
      rw [if_neg n2, if_neg d0, if_pos d.2]
      have hr := hg0.2.1.row hp
      obtain ⟨r0, r1, r2, r3⟩ := hg0.1.2.1 _ hp
      obtain ⟨f0, f1, f2, f3⟩ := hk.2.2.2.2.1 _ hp
      have i0 : rA σ 0 p1.toNat = σ 29 0 p1.toNat := rA_at _ (by omega) (by omega)
      have i1 : rA σ 1 p1.toNat = σ 30 0 p1.toNat := rA_at _ (by omega) (by omega)
      have i2 : rA σ 2 p1.toNat = σ 31 0 p1.toNat := rA_at _ (by omega) (by omega)
      have i3 : rA σ 3 p1.toNat = σ 32 0 p1.toNat := rA_at _ (by omega) (by omega)
      have i4 : rA σ 4 p1.toNat = σ 33 0 p1.toNat := rA_at _ (by omega) (by omega)
      have i5 : rA σ 5 p1.toNat = σ 34 0 p1.toNat := rA_at _ (by omega) (by omega)
      have i6 : rA σ 6 p1.toNat = σ 35 0 p1.toNat := rA_at _ (by omega) (by omega)
      have j0 : rF σ 0 p1.toNat = σ 25 0 p1.toNat := rfl
      have j1 : rF σ 1 p1.toNat = σ 26 0 p1.toNat := rfl
      have j2 : rF σ 2 p1.toNat = σ 27 0 p1.toNat := rfl
      have j3 : rF σ 3 p1.toNat = σ 28 0 p1.toNat := rfl
      unfold V_X0_standing V_X3_fact V_X7_personTells
      rw [hg0.1.2.2.1.get hK hp (by omega), hg0.1.2.2.2.1.get hK hp (by omega), hg0.1.2.2.2.2.get hK hp (by omega), hw1, r0, r1, r2, r3, f0, f1, f2, f3, i0, i1, i2, i3, i4, i5, i6, j0, j1, j2, j3]
      rcases (by omega : w1 = 0 ∨ w1 = 1 ∨ w1 = 2 ∨ w1 = 3 ∨ w1 = 4 ∨ w1 = 5 ∨ w1 = 6 ∨ w1 = 7 ∨ w1 = 8 ∨ w1 = 9 ∨ w1 = 10) with e | e | e | e | e | e | e | e | e | e | e <;> rw [e] <;> simp
    · have n2 : x_wr (if 0 ≤ w1 ∧ w1 ≤ 10 then 1 else 0) = 0 := by rw [i01]; exact d
      rw [if_pos n2]
      (repeat' split) <;> first | rfl | omega
  · have n1 : x_wr (if 0 ≤ p1 ∧ p1 < (K : Int) then 1 else 0) = 0 := by rw [i01]; exact c
    rw [if_pos n1, if_pos n1]
theorem m_count {K u τ v τ1 z w : Nat} {σ : xMi} (h : Rl K u τ v τ1 z w σ σ) {w1 : Int} (hw1 : x_wr w1 = w1) : V_X6_count σ w1 K = V_X7_count σ w1 K := by
  obtain ⟨hk, hg0, hU, hV, hZ, hT, hO⟩ := id h
  have hK := hk.2.1
  have t0 : σ 5 0 4 = σ 24 0 0 := by rw [hk.2.2.1, hk.2.2.2.1]
  have t1 : σ 0 0 10 = σ 24 0 5 := hg0.1.1.1
  have t2 : σ 0 0 9 = σ 24 0 6 := hg0.1.1.2.1
  have t7 : σ 0 0 8 = σ 24 0 8 := hg0.1.1.2.2.2
  have t8 : σ 15 0 3 = σ 24 0 17 := by rw [hZ.2.1, hZ.2.2.1]
  have t9 : σ 13 0 1 = σ 24 0 29 := by rw [hU.2.2.1, hU.2.2.2.2.1]
  have t10 : σ 13 1 1 = σ 24 0 35 := by rw [hV.2.2.1, hV.2.2.2.2.1]
  have t11 : σ 10 0 2 = σ 24 0 22 := by rw [hT.2.1, hT.2.2.1]
  have t3 : V_X0_allOnWay σ 0 K = V_X7_sumOf σ K := by rw [s_cls hg0.1, s_ref hK]
  have hrg := hg0.2.1.rg (by decide)
  have b4 := b_eating hK hg0.1 hrg
  have b4' := b_eatSet hK hrg
  have t4 : V_J6_bitCount_0f7a4 σ (V_X0_eatingBits σ 0 K) = V_X7_bits σ (V_X7_eatSet σ K) := by rw [b4.bits σ σ, b4.uniq b4']
  have b5 := b_told hK hg0.1 (hg0.2.1.tt (by decide))
  have b5' := b_toldSet hK hrg
  have t5 : V_J6_bitCount_0f7a4 σ (V_X0_toldBits σ 0 K) = V_X7_bits σ (V_X7_toldSet σ K) := by rw [b5.bits σ σ, b5.uniq b5']
  have b6 := hg0.1.2.2.1
  have b6' := b_softSet hK hg0.2.1
  have t6 : V_J6_bitCount_0f7a4 σ (σ 0 0 6) = V_X7_bits σ (V_X7_softSet σ K) := by rw [b6.bits σ σ, b6.uniq b6']
  unfold V_X6_count V_X7_count
  rw [v_in hw1 (by omega) (by omega), hw1, t0, t1, t2, t3, t4, t5, t6, t7, t8, t9, t10, t11]
  by_cases c : 0 ≤ w1 ∧ w1 ≤ 11
  · have n1 : ¬ x_wr (if 0 ≤ w1 ∧ w1 ≤ 11 then 1 else 0) = 0 := by rw [i01]; exact fun z => z c
    rw [if_neg n1]
    rcases (by omega : w1 = 0 ∨ w1 = 1 ∨ w1 = 2 ∨ w1 = 3 ∨ w1 = 4 ∨ w1 = 5 ∨ w1 = 6 ∨ w1 = 7 ∨ w1 = 8 ∨ w1 = 9 ∨ w1 = 10 ∨ w1 = 11) with e | e | e | e | e | e | e | e | e | e | e | e <;> rw [e] <;> simp
  · have n1 : x_wr (if 0 ≤ w1 ∧ w1 ≤ 11 then 1 else 0) = 0 := by rw [i01]; exact c
    rw [if_pos n1]
    simp only [if_neg (show ¬ w1 = 0 by omega), if_neg (show ¬ w1 = 1 by omega), if_neg (show ¬ w1 = 2 by omega), if_neg (show ¬ w1 = 3 by omega), if_neg (show ¬ w1 = 4 by omega), if_neg (show ¬ w1 = 5 by omega), if_neg (show ¬ w1 = 6 by omega), if_neg (show ¬ w1 = 7 by omega), if_neg (show ¬ w1 = 8 by omega), if_neg (show ¬ w1 = 9 by omega), if_neg (show ¬ w1 = 10 by omega), if_neg (show ¬ w1 = 11 by omega)]
theorem m_seen {K u τ v τ1 z w : Nat} {σ : xMi} (h : Rl K u τ v τ1 z w σ σ) {n1 p1 s1 : Int} (hwn : x_wr n1 = n1) (hw : x_wr p1 = p1) (hws : x_wr s1 = s1) : V_X6_seen σ n1 p1 s1 z = V_X7_seen (S_X6_seen σ n1 p1 s1 z) n1 p1 s1 z ∧ RR (S_X7_seen (S_X6_seen σ n1 p1 s1 z) n1 p1 s1 z) := by
  obtain ⟨hk, hg0, hU, hV, hZ, hT, hO⟩ := id h
  have hK := hk.2.1
  have hz6 := hZ.1
  have e1 := v_isPerson (σ := σ) hw hK hk.2.2.1
  have hz : x_wr (σ 15 0 3) = (z : Int) := by rw [hZ.2.1]; exact x_wrs (by omega) (by omega)
  by_cases c : (0 ≤ n1 ∧ n1 ≤ 40) ∧ (0 ≤ p1 ∧ p1 < K) ∧ (0 ≤ s1 ∧ s1 ≤ 1)
  · obtain ⟨ca, cb, cc⟩ := c
    have n1' : ¬ x_wr (V_X6_isPerson σ p1) = 0 := by rw [e1, i01]; exact fun z => z cb
    have a0 : ¬ n1 < 0 := by omega
    have a1 : ¬ 40 < n1 := by omega
    have a2 : ¬ s1 < 0 := by omega
    by_cases d : (z : Int) < 6
    · have eS : S_X6_seen σ n1 p1 s1 z = x_up (x_up (x_up (x_up σ 16 0 z n1) 17 0 z p1) 18 0 z s1) 15 0 3 ((z : Int) + 1) := by
        have d2 : ¬ (6 : Int) ≤ (z : Int) := by omega
        have ez : ∀ b, x_up (x_up (x_up σ 16 0 z n1) 17 0 z p1) 18 0 z b 15 0 3 = (z : Int) := fun b => by rw [x_up_k (by omega), x_up_k (by omega), x_up_k (by omega)]; exact hZ.2.1
        unfold S_X6_seen S_X4_add
        rw [hwn, hws, xw40, xw1, xw6, hz, if_neg a0, if_neg a1, if_neg n1', if_neg a2, if_pos cc.2, if_pos d, if_neg d2, if_neg d2, ez, ez]
        by_cases e : s1 = 1
        · rw [if_pos e, e]
        · rw [if_neg e, (by omega : s1 = 0)]
      have eV : V_X6_seen σ n1 p1 s1 z = (z : Int) + 1 := by
        have d2 : ¬ (6 : Int) ≤ (z : Int) := by omega
        have ez : ∀ b, x_up (x_up (x_up σ 16 0 z n1) 17 0 z p1) 18 0 z b 15 0 3 = (z : Int) := fun b => by rw [x_up_k (by omega), x_up_k (by omega), x_up_k (by omega)]; exact hZ.2.1
        unfold V_X6_seen S_X4_add
        rw [hwn, hws, xw40, xw1, xw6, hz, if_neg a0, if_neg a1, if_neg n1', if_neg a2, if_pos cc.2, if_pos d, if_neg d2, if_neg d2, ez, ez, x_up_y rfl, x_up_y rfl]
        split <;> rfl
      rw [eS, eV]
      have hM : eM σ (x_up (x_up (x_up (x_up σ 16 0 z n1) 17 0 z p1) 18 0 z s1) 15 0 3 ((z : Int) + 1)) := fun t i k ht => by rw [x_up_k (by omega), x_up_k (by omega), x_up_k (by omega), x_up_k (by omega)]
      have h' := h.begun hM
      obtain ⟨hk', hg0', hU', hV', hZ', hT', hO'⟩ := h'
      have fs : ∀ t i k, ¬ (15 ≤ t ∧ t ≤ 18) → x_up (x_up (x_up (x_up σ 16 0 z n1) 17 0 z p1) 18 0 z s1) 15 0 3 ((z : Int) + 1) t i k = σ t i k := fun t i k h1 => by rw [x_up_k (by omega), x_up_k (by omega), x_up_k (by omega), x_up_k (by omega)]
      generalize hS : x_up (x_up (x_up (x_up σ 16 0 z n1) 17 0 z p1) 18 0 z s1) 15 0 3 ((z : Int) + 1) = S at *
      have b1 : ¬ x_wr (V_X7_in S n1 0 40) = 0 := by rw [v_in hwn (by omega) (by omega), i01]; exact fun z => z ca
      have b2 : ¬ x_wr (V_X7_isOne S p1) = 0 := by rw [v_isOne hw hK hk'.2.2.2.1, i01]; exact fun z => z cb
      have b3 : ¬ x_wr (V_X7_in S s1 0 1) = 0 := by rw [v_in hws (by omega) (by omega), i01]; exact fun z => z cc
      have b4 : ¬ x_wr (S 24 0 17) = x_wr 6 := by rw [hZ'.2.2.1, xw6, x_wrs (by omega) (by omega)]; omega
      unfold V_X7_seen S_X7_seen
      rw [if_neg b1, if_neg b1, if_neg b2, if_neg b2, if_neg b3, if_neg b3, if_neg b4, if_neg b4]
      have e17 : x_up (x_up (x_up S 37 0 z n1) 38 0 z p1) 39 0 z s1 24 0 17 = (z : Int) := by rw [x_up_k (by omega), x_up_k (by omega), x_up_k (by omega)]; exact hZ'.2.2.1
      rw [e17, x_up_y rfl]
      have fm : ∀ t i k, ¬ (37 ≤ t ∧ t ≤ 39) → ¬ (t = 24 ∧ i = 0 ∧ k = 17) → x_up (x_up (x_up (x_up S 37 0 z n1) 38 0 z p1) 39 0 z s1) 24 0 17 ((z : Int) + 1) t i k = S t i k := fun t i k h1 h2 => by rw [x_up_k h2, x_up_k (by omega), x_up_k (by omega), x_up_k (by omega)]
      have hF : rF (x_up (x_up (x_up (x_up S 37 0 z n1) 38 0 z p1) 39 0 z s1) 24 0 17 ((z : Int) + 1)) = rF S := by
        funext j q; unfold rF; split
        · exact fm _ _ _ (by omega) (by omega)
        · rfl
      have hA : rA (x_up (x_up (x_up (x_up S 37 0 z n1) 38 0 z p1) 39 0 z s1) 24 0 17 ((z : Int) + 1)) = rA S := by
        funext j q; unfold rA
        split
        · exact fm _ _ _ (by omega) (by omega)
        · split
          · exact fm _ _ _ (by omega) (by omega)
          · rfl
      have s15 : S 15 0 3 = (z : Int) + 1 := by rw [← hS, x_up_y rfl]
      have s16 : ∀ k, S 16 0 k = if k = z then n1 else σ 16 0 k := fun k => by
        rw [← hS, x_up_k (by omega), x_up_k (by omega), x_up_k (by omega)]
        by_cases e : k = z
        · rw [if_pos e, e, x_up_y rfl]
        · rw [if_neg e, x_up_k (by omega)]
      have s17 : ∀ k, S 17 0 k = if k = z then p1 else σ 17 0 k := fun k => by
        rw [← hS, x_up_k (by omega), x_up_k (by omega)]
        by_cases e : k = z
        · rw [if_pos e, e, x_up_y rfl]
        · rw [if_neg e, x_up_k (by omega), x_up_k (by omega)]
      have s18 : ∀ k, S 18 0 k = if k = z then s1 else σ 18 0 k := fun k => by
        rw [← hS, x_up_k (by omega)]
        by_cases e : k = z
        · rw [if_pos e, e, x_up_y rfl]
        · rw [if_neg e, x_up_k (by omega), x_up_k (by omega), x_up_k (by omega)]
      have m37 : ∀ k, x_up (x_up (x_up (x_up S 37 0 z n1) 38 0 z p1) 39 0 z s1) 24 0 17 ((z : Int) + 1) 37 0 k = if k = z then n1 else S 37 0 k := fun k => by
        rw [x_up_k (by omega), x_up_k (by omega), x_up_k (by omega)]
        by_cases e : k = z
        · rw [if_pos e, e, x_up_y rfl]
        · rw [if_neg e, x_up_k (by omega)]
      have m38 : ∀ k, x_up (x_up (x_up (x_up S 37 0 z n1) 38 0 z p1) 39 0 z s1) 24 0 17 ((z : Int) + 1) 38 0 k = if k = z then p1 else S 38 0 k := fun k => by
        rw [x_up_k (by omega), x_up_k (by omega)]
        by_cases e : k = z
        · rw [if_pos e, e, x_up_y rfl]
        · rw [if_neg e, x_up_k (by omega), x_up_k (by omega)]
      have m39 : ∀ k, x_up (x_up (x_up (x_up S 37 0 z n1) 38 0 z p1) 39 0 z s1) 24 0 17 ((z : Int) + 1) 39 0 k = if k = z then s1 else S 39 0 k := fun k => by
        rw [x_up_k (by omega)]
        by_cases e : k = z
        · rw [if_pos e, e, x_up_y rfl]
        · rw [if_neg e, x_up_k (by omega), x_up_k (by omega), x_up_k (by omega)]
      refine ⟨rfl, K, u, τ, v, τ1, z + 1, w, Rl.done (s' := S) ?_ (fun t i k ht => fm _ _ _ (by omega) (by omega))⟩
      refine ⟨hk'.c (fun t k h1 h2 => fs _ _ _ (by omega)) (fm _ _ _ (by omega) (by omega)) hF, by rw [hA]; exact hg0'.s (fun t ht k => fs _ _ _ (by omega)) hF, hU'.c (by omega) (fun k => fs _ _ _ (by omega)) (fun t i k h1 h2 h3 => fs _ _ _ (by omega)) hF (fm _ _ _ (by omega) (by omega)) (fun k => fm _ _ _ (by omega) (by omega)), hV'.c (by omega) (fun k => fs _ _ _ (by omega)) (fun t i k h1 h2 h3 => fs _ _ _ (by omega)) hF (fm _ _ _ (by omega) (by omega)) (fun k => fm _ _ _ (by omega) (by omega)), ⟨by omega, by rw [s15]; omega, by rw [x_up_y rfl]; omega, fun k hkz => ?_, fun k => ?_, fun k => ?_, fun k => ?_⟩, hT'.c (fun t k h1 => fs _ _ _ (by omega)) (fm _ _ _ (by omega) (by omega)) (fun k => fm _ _ _ (by omega) (by omega)), hO'.c (fun k => fm _ _ _ (by omega) (by omega))⟩
      · rw [s16, s17, s18, m37, m38, m39]
        by_cases e : k = z
        · simp only [if_pos e]
          exact ⟨trivial, trivial, trivial, by omega, cb.2⟩
        · simp only [if_neg e]
          exact hZ'.2.2.2.1 k (by omega)
      · rw [s16]; split
        · exact ca
        · exact hZ.2.2.2.2.1 k
      · rw [s17]; split
        · omega
        · exact hZ.2.2.2.2.2.1 k
      · rw [m38]; split
        · omega
        · exact hZ'.2.2.2.2.2.2 k
    · have eS : S_X6_seen σ n1 p1 s1 z = σ := by
        unfold S_X6_seen
        rw [hwn, hws, xw40, xw1, xw6, hz, if_neg a0, if_neg a1, if_neg n1', if_neg a2, if_pos cc.2, if_neg d]
      have eV : V_X6_seen σ n1 p1 s1 z = -3 := by
        unfold V_X6_seen
        rw [hwn, hws, xw40, xw1, xw6, hz, if_neg a0, if_neg a1, if_neg n1', if_neg a2, if_pos cc.2, if_neg d]
      rw [eS, eV]
      have b1 : ¬ x_wr (V_X7_in σ n1 0 40) = 0 := by rw [v_in hwn (by omega) (by omega), i01]; exact fun z => z ca
      have b2 : ¬ x_wr (V_X7_isOne σ p1) = 0 := by rw [v_isOne hw hK hk.2.2.2.1, i01]; exact fun z => z cb
      have b3 : ¬ x_wr (V_X7_in σ s1 0 1) = 0 := by rw [v_in hws (by omega) (by omega), i01]; exact fun z => z cc
      have b4 : x_wr (σ 24 0 17) = x_wr 6 := by rw [hZ.2.2.1, xw6, x_wrs (by omega) (by omega)]; omega
      unfold V_X7_seen S_X7_seen
      rw [if_neg b1, if_neg b1, if_neg b2, if_neg b2, if_neg b3, if_neg b3, if_pos b4, if_pos b4]
      exact ⟨rfl, _, _, _, _, _, _, _, h⟩
  · have eS : S_X6_seen σ n1 p1 s1 z = σ := by
      unfold S_X6_seen
      rw [hwn, hws, xw40, xw1, xw6, e1]
      by_cases c0 : n1 < 0
      · rw [if_pos c0]
      · by_cases c1 : 40 < n1
        · rw [if_neg c0, if_pos c1]
        · by_cases c2 : 0 ≤ p1 ∧ p1 < K
          · have n1' : ¬ x_wr (if 0 ≤ p1 ∧ p1 < (K : Int) then 1 else 0) = 0 := by rw [i01]; exact fun z => z c2
            by_cases c3 : s1 < 0
            · rw [if_neg c0, if_neg c1, if_neg n1', if_pos c3]
            · have c4 : ¬ s1 ≤ 1 := fun z => c ⟨by omega, c2, by omega⟩
              rw [if_neg c0, if_neg c1, if_neg n1', if_neg c3, if_neg c4]
          · have n1' : x_wr (if 0 ≤ p1 ∧ p1 < (K : Int) then 1 else 0) = 0 := by rw [i01]; exact c2
            rw [if_neg c0, if_neg c1, if_pos n1']
    have eV : V_X6_seen σ n1 p1 s1 z = -1 := by
      unfold V_X6_seen
      rw [hwn, hws, xw40, xw1, xw6, e1]
      by_cases c0 : n1 < 0
      · rw [if_pos c0]
      · by_cases c1 : 40 < n1
        · rw [if_neg c0, if_pos c1]
        · by_cases c2 : 0 ≤ p1 ∧ p1 < K
          · have n1' : ¬ x_wr (if 0 ≤ p1 ∧ p1 < (K : Int) then 1 else 0) = 0 := by rw [i01]; exact fun z => z c2
            by_cases c3 : s1 < 0
            · rw [if_neg c0, if_neg c1, if_neg n1', if_pos c3]
            · have c4 : ¬ s1 ≤ 1 := fun z => c ⟨by omega, c2, by omega⟩
              rw [if_neg c0, if_neg c1, if_neg n1', if_neg c3, if_neg c4]
          · have n1' : x_wr (if 0 ≤ p1 ∧ p1 < (K : Int) then 1 else 0) = 0 := by rw [i01]; exact c2
            rw [if_neg c0, if_neg c1, if_pos n1']
    rw [eS, eV]
    have r : V_X7_seen σ n1 p1 s1 z = -1 ∧ S_X7_seen σ n1 p1 s1 z = σ := by
      unfold V_X7_seen S_X7_seen
      rw [v_in hwn (by omega) (by omega), v_isOne hw hK hk.2.2.2.1, v_in hws (by omega) (by omega)]
      by_cases ca : 0 ≤ n1 ∧ n1 ≤ 40
      · have m1 : ¬ x_wr (if 0 ≤ n1 ∧ n1 ≤ 40 then 1 else 0) = 0 := by rw [i01]; exact fun z => z ca
        rw [if_neg m1, if_neg m1]
        by_cases cb : 0 ≤ p1 ∧ p1 < K
        · have m2 : ¬ x_wr (if 0 ≤ p1 ∧ p1 < (K : Int) then 1 else 0) = 0 := by rw [i01]; exact fun z => z cb
          have m3 : x_wr (if 0 ≤ s1 ∧ s1 ≤ 1 then 1 else 0) = 0 := by rw [i01]; exact fun z => c ⟨ca, cb, z⟩
          rw [if_neg m2, if_neg m2, if_pos m3, if_pos m3]
          exact ⟨rfl, rfl⟩
        · have m2 : x_wr (if 0 ≤ p1 ∧ p1 < (K : Int) then 1 else 0) = 0 := by rw [i01]; exact cb
          rw [if_pos m2, if_pos m2]
          exact ⟨rfl, rfl⟩
      · have m1 : x_wr (if 0 ≤ n1 ∧ n1 ≤ 40 then 1 else 0) = 0 := by rw [i01]; exact ca
        rw [if_pos m1, if_pos m1]
        exact ⟨rfl, rfl⟩
    rw [r.1, r.2]
    exact ⟨rfl, _, _, _, _, _, _, _, h⟩
