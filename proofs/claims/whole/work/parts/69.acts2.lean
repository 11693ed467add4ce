theorem aPs_day {F : aS} {K : Nat} : ∀ (n : Nat) (a : aS), aPs F K n a 8 0 = a 8 0 + n := by
  intro n
  induction n with
  | zero => intro a; simp [aPs]
  | succ n ih =>
    intro a
    unfold aPs
    rw [ih, (aP_g F 0 K a).1]
    omega
theorem aN_Ps {F : aS} {K : Nat} : ∀ (n : Nat) (D : Int) (a : aS), aW K D a → aN F K a → aN F K (aPs F K n a) := by
  intro n
  induction n with
  | zero => intro D a _ h; exact h
  | succ n ih => intro D a hW h; exact ih (D + 1) _ (aP_W hW) (aN_P hW)
theorem m_pass {K u τ v τ1 z w : Nat} {σ : xMi} (h : Rl K u τ v τ1 z w σ σ) {n1 : Int} (hw : x_wr n1 = n1) : V_X6_pass σ n1 K τ = V_X7_pass (S_X6_pass σ n1 K τ) n1 K u ∧ RR (S_X7_pass (S_X6_pass σ n1 K τ) n1 K u) := by
  obtain ⟨hk, hg0, -⟩ := id h
  have hK := hk.2.1
  have hd := hg0.2.1.1
  have i0 : rA σ 8 0 = σ 24 0 5 := rfl
  unfold V_X6_pass S_X6_pass
  rw [hw, xw1, xw20, xw999, hg0.1.1.1]
  by_cases c : 1 ≤ n1 ∧ n1 ≤ 20
  · have c0 : ¬ n1 < 1 := by omega
    rw [if_neg c0, if_neg c0, if_pos c.2, if_pos c.2, x_wrs (a := rA σ 8 0 + n1) (by omega) (by omega)]
    by_cases d : rA σ 8 0 + n1 ≤ 999
    · rw [if_pos d, if_pos d]
      have hM : eM σ (S_X0_passDays (S_X2_push σ 0 0 τ) 0 n1.toNat K) := fun t i k ht => by rw [fr_S_X0_passDays _ _ _ _ (by omega), push_M t i k ht]
      have hA := notes_A h hM
      have hc := push_now h
      have hC := cF_passDays (f := 0) (n := n1.toNat) hK hk.2.2.2.2.2 n1.toNat 0 (S_X2_push σ 0 0 τ) (rA σ) 999 (by omega) hc.1 hc.2 hg0.2.1
      have e1 : ¬ x_wr (V_X7_in (S_X0_passDays (S_X2_push σ 0 0 τ) 0 n1.toNat K) n1 1 20) = 0 := by rw [v_in hw (by omega) (by omega), i01]; exact fun z => z c
      have e2 : x_wr (S_X0_passDays (S_X2_push σ 0 0 τ) 0 n1.toNat K 24 0 5 + n1) ≤ x_wr 999 := by rw [hM _ _ _ (by omega), ← i0, x_wrs (by omega) (by omega), xw999]; exact d
      unfold V_X7_pass S_X7_pass
      rw [if_neg e1, if_neg e1, if_pos e2, if_pos e2]
      have hWn : aW K 999 (rA (S_X7_notes (S_X0_passDays (S_X2_push σ 0 0 τ) 0 n1.toNat K) u)) := by rw [hA.1]; exact hg0.2.1
      have hS := rA_goesOn (m := S_X7_notes (S_X0_passDays (S_X2_push σ 0 0 τ) 0 n1.toNat K) u) (n := n1.toNat) (D := 999) hK (by omega) (by rw [hA.2.1]; exact hk.2.2.2.2.2) hWn
      rw [hA.1, hA.2.1] at hS
      have hWa := aPs_W (F := rF σ) (K := K) n1.toNat 999 (rA σ) hg0.2.1
      have hda := aPs_day (F := rF σ) (K := K) n1.toNat (rA σ)
      have hW9 : aW K 999 (aPs (rF σ) K n1.toNat (rA σ)) := ⟨⟨hWa.1.1, by rw [hda]; omega⟩, hWa.2⟩
      refine ⟨?_, h.act hM (fun t i k h1 h2 => fr_S_X0_passDays _ _ _ _ (by omega)) (sM_goesOn _ _ _) (fun t i k ht => by rw [fr_S_X7_goesOn _ _ _ (by omega), fr_S_X7_notes _ _ (by omega)]) ?_⟩
      · rw [hS.2, (b_told hK (show cF 0 (S_X0_passDays (S_X2_push σ 0 0 τ) 0 n1.toNat K) K _ from hC) (hWa.tt (by omega))).cnt _ hK, (b_told hK hc.1 (hg0.2.1.tt (by decide))).cnt _ hK]
      · rw [hS.1]
        refine ⟨hC, hW9, ?_⟩
        rw [(sM_goesOn _ _ _).F, hA.2.1]
        exact aN_Ps _ _ _ hg0.2.1 hg0.2.2
    · rw [if_neg d, if_neg d]
      have e1 : ¬ x_wr (V_X7_in σ n1 1 20) = 0 := by rw [v_in hw (by omega) (by omega), i01]; exact fun z => z c
      have e2 : ¬ x_wr (σ 24 0 5 + n1) ≤ x_wr 999 := by rw [← i0, x_wrs (by omega) (by omega), xw999]; exact d
      unfold V_X7_pass S_X7_pass
      rw [if_neg e1, if_neg e1, if_neg e2, if_neg e2]
      exact ⟨rfl, _, _, _, _, _, _, _, h⟩
  · have e1 : x_wr (V_X7_in σ n1 1 20) = 0 := by rw [v_in hw (by omega) (by omega), i01]; exact c
    by_cases c1 : n1 < 1
    · rw [if_pos c1, if_pos c1]
      unfold V_X7_pass S_X7_pass
      rw [if_pos e1, if_pos e1]
      exact ⟨rfl, _, _, _, _, _, _, _, h⟩
    · have c2 : ¬ n1 ≤ 20 := by omega
      rw [if_neg c1, if_neg c1, if_neg c2, if_neg c2]
      unfold V_X7_pass S_X7_pass
      rw [if_pos e1, if_pos e1]
      exact ⟨rfl, _, _, _, _, _, _, _, h⟩
theorem pop0 {σ : xMi} {j τ : Nat} (h : σ 13 j 1 = 0) : V_X2_popInto σ j 0 τ = 0 ∧ S_X2_popInto σ j 0 τ = σ := by
  unfold V_X2_popInto S_X2_popInto
  rw [h, xw0, if_pos rfl, if_pos rfl]
  exact ⟨rfl, rfl⟩
theorem m_undo {K u τ v τ1 z w : Nat} {σ : xMi} (h : Rl K u τ v τ1 z w σ σ) : V_X6_undo σ τ = V_X7_undo (S_X6_undo σ τ) u ∧ RR (S_X7_undo (S_X6_undo σ τ) u) := by
  obtain ⟨hk, hg0, hU, hV, hZ, hT, hO⟩ := id h
  have hK := hk.2.1
  have eS : S_X6_undo σ τ = S_X2_popInto σ 0 0 τ := by unfold S_X6_undo; split <;> rfl
  rw [eS]
  by_cases c : u = 0
  · subst c
    obtain ⟨p1, p2⟩ := pop0 (τ := τ) (hU.2.2.1)
    rw [p2]
    unfold V_X6_undo V_X7_undo S_X7_undo
    have e0 : x_wr (σ 24 0 29) = 0 := by rw [hU.2.2.2.2.1]; rfl
    rw [p1, xw0, if_pos rfl, if_pos e0, if_pos e0]
    exact ⟨rfl, _, _, _, _, _, _, _, h⟩
  · have hp := pop_eq (s := σ) (j := 0) (L := 8) rfl (by omega) hU.2.1 hU.2.2.2.1 hU.2.2.1 (by omega) hU.1
    have hM : eM σ (S_X2_popInto σ 0 0 τ) := fun t i k ht => fr_S_X2_popInto _ _ _ _ (by omega)
    have hu29 : S_X2_popInto σ 0 0 τ 24 0 29 = (u : Int) := by rw [hM _ _ _ (by omega)]; exact hU.2.2.2.2.1
    have e0 : ¬ x_wr (S_X2_popInto σ 0 0 τ 24 0 29) = 0 := by rw [hu29, x_wrs (by have := hU.1; omega) (by have := hU.1; omega)]; omega
    unfold V_X6_undo V_X7_undo S_X7_undo
    rw [hp.2, if_neg (by decide), if_neg e0, if_neg e0, hu29]
    have h' := h.begun hM
    obtain ⟨hk', hg0', hU', hV', hZ', hT', hO'⟩ := h'
    have f1 : ∀ t i k, ¬ ((t = 24 ∧ 5 ≤ k ∧ k ≤ 8) ∨ (29 ≤ t ∧ t ≤ 36)) → ¬ (t = 24 ∧ i = 0 ∧ k = 29) → S_X7_takes_42 (x_up (S_X2_popInto σ 0 0 τ) 24 0 29 ((u : Int) - 1)) (52 * (u - 1)) t i k = S_X2_popInto σ 0 0 τ t i k := fun t i k h1 h2 => by rw [fr_S_X7_takes_42 _ _ h1, x_up_k h2]
    have f29 : S_X7_takes_42 (x_up (S_X2_popInto σ 0 0 τ) 24 0 29 ((u : Int) - 1)) (52 * (u - 1)) 24 0 29 = (u : Int) - 1 := by rw [fr_S_X7_takes_42 _ _ (by omega), x_up_y rfl]
    have hA : rA (S_X7_takes_42 (x_up (S_X2_popInto σ 0 0 τ) 24 0 29 ((u : Int) - 1)) (52 * (u - 1))) = sA 42 (S_X2_popInto σ 0 0 τ) (52 * (u - 1)) := by rw [tk_42]; exact sA_cong (fun k _ _ => x_up_k (by omega))
    have hF : rF (S_X7_takes_42 (x_up (S_X2_popInto σ 0 0 τ) 24 0 29 ((u : Int) - 1)) (52 * (u - 1))) = rF (S_X2_popInto σ 0 0 τ) := by
      funext j q; unfold rF; split
      · exact f1 _ _ _ (by omega) (by omega)
      · rfl
    refine ⟨?_, ?_⟩
    · rw [f29, hp.1]; simp [x_up]
    · have pf : ∀ t i k, ¬ ((t = 13 ∧ i = 0) ∨ (t ≤ 4 ∧ i = 0)) → S_X2_popInto σ 0 0 τ t i k = σ t i k := fun t i k hne => fr_S_X2_popInto _ _ _ _ hne
      refine ⟨K, u - 1, (τ + 8 - 1) % 8, v, τ1, z, w, Rl.done (s' := S_X2_popInto σ 0 0 τ) ?_ (fun t i k ht => f1 _ _ _ (by omega) (by omega))⟩
      refine ⟨hk'.c (fun t k h1 h2 => pf _ _ _ (by omega)) (f1 _ _ _ (by omega) (by omega)) hF, pop_now (Or.inl ⟨rfl, rfl, rfl⟩) hK (by omega) hU' hF hA, hU'.pop (Or.inl ⟨rfl, rfl, rfl⟩) (by omega) hF f29 (fun k => f1 _ _ _ (by omega) (by omega)), hV'.c (by omega) (fun k => pf _ _ _ (by omega)) (fun t i k h1 h2 h3 => pf _ _ _ (by omega)) hF (f1 _ _ _ (by omega) (by omega)) (fun k => f1 _ _ _ (by omega) (by omega)), hZ'.c (fun t k h1 h2 => pf _ _ _ (by omega)) (f1 _ _ _ (by omega) (by omega)) (fun t k h1 h2 => f1 _ _ _ (by omega) (by omega)), hT'.c (fun t k h1 => pf _ _ _ (by omega)) (f1 _ _ _ (by omega) (by omega)) (fun k => f1 _ _ _ (by omega) (by omega)), hO'.c (fun k => f1 _ _ _ (by omega) (by omega))⟩
theorem m_back {K u τ v τ1 z w : Nat} {σ : xMi} (h : Rl K u τ v τ1 z w σ σ) : V_X6_back σ τ1 = V_X7_back (S_X6_back σ τ1) v ∧ RR (S_X7_back (S_X6_back σ τ1) v) := by
  obtain ⟨hk, hg0, hU, hV, hZ, hT, hO⟩ := id h
  have hK := hk.2.1
  by_cases c : v = 0
  · subst c
    obtain ⟨p1, p2⟩ := pop0 (τ := τ1) (hV.2.2.1)
    have e0 : x_wr (σ 24 0 35) = 0 := by rw [hV.2.2.2.2.1]; rfl
    have eS : S_X6_back σ τ1 = σ := by unfold S_X6_back; rw [p1, xw0, if_pos rfl, p2]
    rw [eS]
    unfold V_X6_back V_X7_back S_X7_back
    rw [p1, xw0, if_pos rfl, if_pos e0, if_pos e0]
    exact ⟨rfl, _, _, _, _, _, _, _, h⟩
  · have hp := pop_eq (s := σ) (j := 1) (L := 2) rfl (by omega) hV.2.1 hV.2.2.2.1 hV.2.2.1 (by omega) hV.1
    have eS : S_X6_back σ τ1 = x_up (S_X2_popInto σ 1 0 τ1) 13 0 1 0 := by unfold S_X6_back; rw [hp.2, if_neg (by decide)]
    rw [eS]
    have hM1 : eM σ (S_X2_popInto σ 1 0 τ1) := fun t i k ht => fr_S_X2_popInto _ _ _ _ (by omega)
    have hM : eM σ (x_up (S_X2_popInto σ 1 0 τ1) 13 0 1 0) := fun t i k ht => by rw [x_up_k (by omega)]; exact hM1 t i k ht
    have hv35 : x_up (S_X2_popInto σ 1 0 τ1) 13 0 1 0 24 0 35 = (v : Int) := by rw [hM _ _ _ (by omega)]; exact hV.2.2.2.2.1
    have e0 : ¬ x_wr (x_up (S_X2_popInto σ 1 0 τ1) 13 0 1 0 24 0 35) = 0 := by rw [hv35, x_wrs (by have := hV.1; omega) (by have := hV.1; omega)]; omega
    unfold V_X6_back V_X7_back S_X7_back
    rw [hp.2, if_neg (by decide), if_neg e0, if_neg e0, hv35]
    have h' := h.begun hM
    obtain ⟨hk', hg0', hU', hV', hZ', hT', hO'⟩ := h'
    have f1 : ∀ t i k, ¬ ((t = 24 ∧ 5 ≤ k ∧ k ≤ 8) ∨ (29 ≤ t ∧ t ≤ 36)) → ¬ (t = 24 ∧ i = 0 ∧ (k = 29 ∨ k = 35)) → x_up (S_X7_takes_46 (x_up (x_up (S_X2_popInto σ 1 0 τ1) 13 0 1 0) 24 0 35 ((v : Int) - 1)) (52 * (v - 1))) 24 0 29 0 t i k = x_up (S_X2_popInto σ 1 0 τ1) 13 0 1 0 t i k := fun t i k h1 h2 => by rw [x_up_k (by omega), fr_S_X7_takes_46 _ _ h1, x_up_k (by omega)]
    have f35 : x_up (S_X7_takes_46 (x_up (x_up (S_X2_popInto σ 1 0 τ1) 13 0 1 0) 24 0 35 ((v : Int) - 1)) (52 * (v - 1))) 24 0 29 0 24 0 35 = (v : Int) - 1 := by rw [x_up_k (by omega), fr_S_X7_takes_46 _ _ (by omega), x_up_y rfl]
    have f29 : x_up (S_X7_takes_46 (x_up (x_up (S_X2_popInto σ 1 0 τ1) 13 0 1 0) 24 0 35 ((v : Int) - 1)) (52 * (v - 1))) 24 0 29 0 24 0 29 = 0 := x_up_y rfl
    have hA : rA (x_up (S_X7_takes_46 (x_up (x_up (S_X2_popInto σ 1 0 τ1) 13 0 1 0) 24 0 35 ((v : Int) - 1)) (52 * (v - 1))) 24 0 29 0) = sA 46 (x_up (S_X2_popInto σ 1 0 τ1) 13 0 1 0) (52 * (v - 1)) := by
      have e1 : ∀ m : xMi, rA (x_up m 24 0 29 0) = rA m := fun m => by
        funext j q; unfold rA
        split
        · exact x_up_k (by omega)
        · split
          · exact x_up_k (by omega)
          · rfl
      rw [e1, tk_46]; exact sA_cong (fun k _ _ => x_up_k (by omega))
    have hF : rF (x_up (S_X7_takes_46 (x_up (x_up (S_X2_popInto σ 1 0 τ1) 13 0 1 0) 24 0 35 ((v : Int) - 1)) (52 * (v - 1))) 24 0 29 0) = rF (x_up (S_X2_popInto σ 1 0 τ1) 13 0 1 0) := by
      funext j q; unfold rF; split
      · exact f1 _ _ _ (by omega) (by omega)
      · rfl
    refine ⟨?_, ?_⟩
    · rw [f35, hp.1]; simp [x_up]
    · have pf : ∀ t i k, ¬ ((t = 13 ∧ i = 1) ∨ (t ≤ 4 ∧ i = 0)) → ¬ (t = 13 ∧ i = 0 ∧ k = 1) → x_up (S_X2_popInto σ 1 0 τ1) 13 0 1 0 t i k = σ t i k := fun t i k hne h2 => by rw [x_up_k h2]; exact fr_S_X2_popInto _ _ _ _ hne
      have gn := pop_now (m' := x_up (S_X7_takes_46 (x_up (x_up (S_X2_popInto σ 1 0 τ1) 13 0 1 0) 24 0 35 ((v : Int) - 1)) (52 * (v - 1))) 24 0 29 0) (Or.inr ⟨rfl, rfl, rfl⟩) hK (by omega) hV' hF hA
      have gp := hV'.pop (m' := x_up (S_X7_takes_46 (x_up (x_up (S_X2_popInto σ 1 0 τ1) 13 0 1 0) 24 0 35 ((v : Int) - 1)) (52 * (v - 1))) 24 0 29 0) (Or.inr ⟨rfl, rfl, rfl⟩) (by omega) hF f35 (fun k => f1 _ _ _ (by omega) (by omega))
      refine ⟨K, 0, τ, v - 1, (τ1 + 2 - 1) % 2, z, w, Rl.done (s' := x_up (S_X2_popInto σ 1 0 τ1) 13 0 1 0) ?_ (fun t i k ht => f1 _ _ _ (by omega) (by omega))⟩
      refine ⟨hk'.c (fun t k h1 h2 => pf _ _ _ (by omega) (by omega)) (f1 _ _ _ (by omega) (by omega)) hF, gn.s (fun t ht k => x_up_k (by omega)) rfl, ⟨by omega, hU'.2.1, x_up_y rfl, by rw [pf _ _ _ (by omega) (by omega)]; exact hU'.2.2.2.1, f29, fun i hi => by omega⟩, gp.c (by omega) (fun k => x_up_k (by omega)) (fun t i k h1 h2 h3 => x_up_k (by omega)) rfl rfl (fun k => rfl), hZ'.c (fun t k h1 h2 => pf _ _ _ (by omega) (by omega)) (f1 _ _ _ (by omega) (by omega)) (fun t k h1 h2 => f1 _ _ _ (by omega) (by omega)), hT'.c (fun t k h1 => pf _ _ _ (by omega) (by omega)) (f1 _ _ _ (by omega) (by omega)) (fun k => f1 _ _ _ (by omega) (by omega)), hO'.c (fun k => f1 _ _ _ (by omega) (by omega))⟩
theorem m_keep {K u τ v τ1 z w : Nat} {σ : xMi} (h : Rl K u τ v τ1 z w σ σ) : V_X6_keep σ τ1 = V_X7_keep (S_X6_keep σ τ1) v ∧ RR (S_X7_keep (S_X6_keep σ τ1) v) := by
  obtain ⟨hk, hg0, hU, hV, hZ, hT, hO⟩ := id h
  have hK := hk.2.1
  have hv2 := hV.1
  by_cases c : v = 2
  · subst c
    have e1 : ¬ x_wr (σ 13 1 1) < x_wr 2 := by rw [hV.2.2.1]; decide
    have e0 : x_wr (σ 24 0 35) = x_wr 2 := by rw [hV.2.2.2.2.1]; rfl
    unfold V_X6_keep S_X6_keep
    rw [if_neg e1, if_neg e1]
    unfold V_X7_keep S_X7_keep
    rw [if_pos e0, if_pos e0]
    exact ⟨rfl, _, _, _, _, _, _, _, h⟩
  · have e1 : x_wr (σ 13 1 1) < x_wr 2 := by rw [hV.2.2.1, xw2, x_wrs (by omega) (by omega)]; omega
    unfold V_X6_keep S_X6_keep
    rw [if_pos e1, if_pos e1]
    have hM : eM σ (S_X2_push σ 1 0 τ1) := push_M
    have e0 : ¬ x_wr (S_X2_push σ 1 0 τ1 24 0 35) = x_wr 2 := by rw [hM _ _ _ (by omega), hV.2.2.2.2.1, xw2, x_wrs (by omega) (by omega)]; omega
    have h' := h.begun hM
    obtain ⟨hk', hg0', hU', hV', hZ', hT', hO'⟩ := h'
    unfold V_X7_keep S_X7_keep
    rw [if_neg e0, if_neg e0]
    have l := ly_46 (S_X2_push σ 1 0 τ1) (52 * v)
    have e35 : S_X7_lays_46 (S_X2_push σ 1 0 τ1) (52 * v) 24 0 35 = (v : Int) := by rw [fr_S_X7_lays_46 _ _ (by omega)]; exact hV'.2.2.2.2.1
    rw [e35]
    have f1 : ∀ t i k, t ≠ 46 → ¬ (t = 24 ∧ i = 0 ∧ k = 35) → x_up (S_X7_lays_46 (S_X2_push σ 1 0 τ1) (52 * v)) 24 0 35 ((v : Int) + 1) t i k = S_X2_push σ 1 0 τ1 t i k := fun t i k h1 h2 => by rw [x_up_k h2, fr_S_X7_lays_46 _ _ h1]
    have hF : rF (x_up (S_X7_lays_46 (S_X2_push σ 1 0 τ1) (52 * v)) 24 0 35 ((v : Int) + 1)) = rF (S_X2_push σ 1 0 τ1) := by
      funext j q; unfold rF; split
      · exact f1 _ _ _ (by omega) (by omega)
      · rfl
    have hA : rA (x_up (S_X7_lays_46 (S_X2_push σ 1 0 τ1) (52 * v)) 24 0 35 ((v : Int) + 1)) = rA (S_X2_push σ 1 0 τ1) := by
      funext j q; unfold rA
      split
      · exact f1 _ _ _ (by omega) (by omega)
      · split
        · exact f1 _ _ _ (by omega) (by omega)
        · rfl
    have nif : (if v = 2 then 2 else v + 1) = v + 1 := if_neg c
    have hP := hV'.push (m' := x_up (S_X7_lays_46 (S_X2_push σ 1 0 τ1) (52 * v)) 24 0 35 ((v : Int) + 1)) (Or.inr ⟨rfl, rfl, rfl⟩) hK hg0' hF (by rw [nif, x_up_y rfl]; omega)
      (by rw [nif, Nat.add_sub_cancel, sA_cong (m := S_X7_lays_46 (S_X2_push σ 1 0 τ1) (52 * v)) (fun k _ _ => x_up_k (by omega)), l.1])
      (fun i hi => by
        rw [nif] at hi ⊢
        rw [(by omega : v + 1 - 1 - (i + 1) = v - 1 - i)]
        exact sA_cong (fun k h1 h2 => by rw [x_up_k (by omega), l.2 k (by omega)]))
    rw [nif] at hP
    have pf : ∀ t i k, ¬ ((t = 13 ∧ i = 1) ∨ (t ≤ 4 ∧ 11 ≤ i ∧ i < 13)) → S_X2_push σ 1 0 τ1 t i k = σ t i k := by
      intro t i k hne
      have hml := Nat.mod_lt (τ1 + 1) (by omega : 2 > 0)
      rw [push_eq (L := 2) rfl (by omega) hV.2.1 hV.2.2.2.1, x_up_k (by omega), fr_S_X0_copyFrom _ _ _ (by simp [x_pf]; omega), x_up_k (by omega)]
    refine ⟨?_, K, u, τ, v + 1, (τ1 + 1) % 2, z, w, Rl.done (s' := S_X2_push σ 1 0 τ1) ?_ (fun t i k ht => f1 _ _ _ (by omega) (by omega))⟩
    · rw [x_up_y rfl, hP.2.2.1]; omega
    · refine ⟨hk'.c (fun t k h1 h2 => pf _ _ _ (by omega)) (f1 _ _ _ (by omega) (by omega)) hF, ?_, ?_, hP, hZ'.c (fun t k h1 h2 => pf _ _ _ (by omega)) (f1 _ _ _ (by omega) (by omega)) (fun t k h1 h2 => f1 _ _ _ (by omega) (by omega)), hT'.c (fun t k h1 => pf _ _ _ (by omega)) (f1 _ _ _ (by omega) (by omega)) (fun k => f1 _ _ _ (by omega) (by omega)), hO'.c (fun k => f1 _ _ _ (by omega) (by omega))⟩
      · rw [hA]; exact hg0'.s (fun t ht k => pf _ _ _ (by omega)) hF
      · obtain ⟨q1, q2, q3, q4, q5, q6⟩ := hU'
        refine ⟨q1, q2, by rw [pf _ _ _ (by omega)]; exact q3, by rw [pf _ _ _ (by omega)]; exact q4, by rw [f1 _ _ _ (by omega) (by omega)]; exact q5, fun i hi => ?_⟩
        have hml := Nat.mod_lt (τ + 8 - i) (by omega : 8 > 0)
        rw [sA_cong (m := S_X2_push σ 1 0 τ1) (fun k _ _ => f1 _ _ _ (by omega) (by omega))]
        exact (q6 i hi).s (fun t ht k => pf _ _ _ (by omega)) hF
