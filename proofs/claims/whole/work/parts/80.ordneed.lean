def fOp (K : Nat) (a : aS) : Nat → Bool := fun q => decide (q < K ∧ aOpen a q)
noncomputable def bestOf (F : aS) (K : Nat) (a : aS) (h : Int) : Int × List Nat := fO (fun l => Wt F K (aRun F K l (aSt a h))) [] (px (Lf (fOp K a)).length (Lf (fOp K a))) (-1, [])
theorem fO_mem (G : List Nat → Int) (pre : List Nat) : ∀ (ls : List (List Nat)) (b : Int × List Nat) (l : List Nat), l ∈ ls → G l ≤ (fO G pre ls b).1 := by
  intro ls
  induction ls with
  | nil => intro b l h; exact absurd h (by simp)
  | cons l0 ls ih =>
    intro b l h
    unfold fO
    rcases List.mem_cons.mp h with rfl | h
    · refine Int.le_trans ?_ (fO_ge _ _ _ _)
      split
      · exact Int.le_refl _
      · show G l ≤ b.1; omega
    · exact ih _ l h
theorem fO_first {G : List Nat → Int} {pre : List Nat} {ls : List (List Nat)} {b b' : Int × List Nat} (hne : ls ≠ []) (hG : ∀ l, l ∈ ls → 0 ≤ G l) (h1 : b.1 < 0) (h2 : b'.1 < 0) : fO G pre ls b = fO G pre ls b' := by
  match ls, hne with
  | l :: ls, _ =>
    unfold fO
    have := hG l (List.mem_cons_self ..)
    rw [if_pos (by omega), if_pos (by omega)]
theorem px_ne (f : Nat → Bool) : px (Lf f).length (Lf f) ≠ [] := by
  have h := List.all_eq_true.mp chk_all _ (opb_rise f (Nat.le_refl 6))
  simp only [Bool.and_eq_true, beq_iff_eq] at h
  intro z
  have h2 := h.1.2
  change (px (Lf f).length (Lf f)).head? = some (Lf f) at h2
  rw [z] at h2
  exact absurd h2 (by simp)
theorem Lf_len (f : Nat → Bool) {n : Nat} (h : ∀ p, p < 6 → (n.testBit p = true ↔ f p = true)) : ∀ (k p : Nat), p + k ≤ 6 → ((opb f k p).length : Int) = cb n k p := by
  intro k
  induction k with
  | zero => intro p _; rfl
  | succ k ih =>
    intro p hp
    unfold opb cb
    have h1 := ih (p + 1) (by omega)
    have h0 := h p (by omega)
    by_cases c : f p = true
    · rw [if_pos c, if_pos (h0.mpr c), List.length_cons]; omega
    · rw [if_neg c, if_neg (fun z => c (h0.mp z))]; omega
theorem SX_193 {K : Nat} : ∀ (M dp : Nat) (b : Int) (s : xMi), SX K M dp b s 19 0 3 = s 19 0 3 := by
  have core : ∀ (dp : Nat) (b : Int) (m : Nat) (G : Int → xMi → xMi), (∀ b s, G b s 19 0 3 = s 19 0 3) → ∀ s, S_X1_extend s dp b m K G 19 0 3 = s 19 0 3 := by
    intro dp b m G hG s
    have loop : ∀ (k p : Nat) (s : xMi), RS_X1_extend_52 dp b m K G k p s 19 0 3 = s 19 0 3 := by
      intro k
      induction k with
      | zero => intro p s; rfl
      | succ k ih =>
        intro p s
        rw [ext_step]
        split
        · exact ih _ _
        · split
          · rw [ih, aft_fr (by omega)]
          · rw [ih, hG, x_up_k (by omega), aft_fr (by omega)]
    unfold S_X1_extend
    split
    · rw [x_cp_o (by omega), x_up_k (by omega)]
    · split
      · exact loop 6 0 s
      · rw [x_cp_o (by omega), x_up_k (by omega)]
  intro M
  induction M with
  | zero => intro dp b s; exact core dp b 0 _ (fun _ _ => rfl) s
  | succ M ih => intro dp b s; exact core dp b (M + 1) _ (fun b s => ih (dp + 1) b s) s
/-- the class's search, all of it -/
theorem run_all {K : Nat} {F a : aS} {s : xMi} {h : Int} (hK : K ≤ 6) (hF : aF K F) (hC : cF 0 s K a) (hR : cR 0 s K F) (hW : aW K 999 a) (hN : aN F K a) (hh : 0 ≤ h ∧ h ≤ 20) : V_X1_run s h K = (bestOf F K a h).1 ∧ Bc 22 (Lf (fOp K a)).length (S_X1_run s h K) (bestOf F K a h).2 ∧ S_X1_run s h K 19 0 3 = ((Lf (fOp K a)).length : Int) := by
  have c0 : cF 13 (S_X0_copyFrom s 13 0) K a := cF_copyFrom hK (by omega) hC
  have c1 : cF 13 (x_up (S_X0_copyFrom s 13 0) 0 13 9 h) K (aSt a h) := cF_st c0
  have f0 : ∀ t i k, ¬ (t ≤ 4 ∧ i = 13) → x_up (S_X0_copyFrom s 13 0) 0 13 9 h t i k = s t i k := fun t i k hne => by rw [x_up_k (by omega), fr_S_X0_copyFrom _ _ _ hne]
  have c2 : cF 0 (x_up (S_X0_copyFrom s 13 0) 0 13 9 h) K a := hC.same (fun t ht k => f0 _ _ _ (by omega))
  have r1 : cR 0 (x_up (S_X0_copyFrom s 13 0) 0 13 9 h) K F := hR.same (fun t h1 h2 k => f0 _ _ _ (by omega))
  have loop : ∀ (k p : Nat) (c : Int), p + k = K → bB c p (ind (fOp K a)) → ∃ b, bB b K (ind (fOp K a)) ∧ RV_X1_run_23 h K k p (x_up (S_X0_copyFrom s 13 0) 0 13 9 h) c = SX K 6 0 b (x_up (x_up (x_up (S_X0_copyFrom s 13 0) 0 13 9 h) 19 0 3 (V_J6_bitCount_0f7a4 (x_up (S_X0_copyFrom s 13 0) 0 13 9 h) b)) 19 0 4 (-1)) 19 0 4 ∧ RS_X1_run_23 h K k p (x_up (S_X0_copyFrom s 13 0) 0 13 9 h) c = SX K 6 0 b (x_up (x_up (x_up (S_X0_copyFrom s 13 0) 0 13 9 h) 19 0 3 (V_J6_bitCount_0f7a4 (x_up (S_X0_copyFrom s 13 0) 0 13 9 h) b)) 19 0 4 (-1)) := by
    intro k
    induction k with
    | zero => intro p c hp hb; exact ⟨c, (by omega : p = K) ▸ hb, rfl, rfl⟩
    | succ k ih =>
      intro p c hp hb
      unfold RV_X1_run_23 RS_X1_run_23
      rw [c_canBeSentOne hK (by decide) c2 hW (by omega)]
      by_cases d : aOpen a p
      · have d1 : ¬ x_wr (if aOpen a p then 1 else 0) = 0 := fun z => i01.mp z d
        rw [if_neg d1, if_neg d1]
        exact ih (p + 1) _ (by omega) (hb.snoc1 (by omega) (ind_1.mpr (by unfold fOp; exact decide_eq_true ⟨by omega, d⟩)))
      · have d1 : x_wr (if aOpen a p then 1 else 0) = 0 := i01.mpr d
        rw [if_pos d1, if_pos d1]
        exact ih (p + 1) c (by omega) (hb.snoc0 (fun z => d (of_decide_eq_true (ind_1.mp z)).2))
  obtain ⟨b, hb, l1, l2⟩ := loop K 0 0 (by omega) (bB.zero 0 (fun p h => by omega))
  have hb6 : bB b 6 (ind (fOp K a)) := by
    obtain ⟨n, e1, e2, e3⟩ := hb
    exact ⟨n, e1, e2, fun p hp => (e3 p hp).trans ⟨fun z => ⟨hp, z.2⟩, fun z => ⟨(of_decide_eq_true (ind_1.mp z.2)).1, z.2⟩⟩⟩
  have hbc : V_J6_bitCount_0f7a4 (x_up (S_X0_copyFrom s 13 0) 0 13 9 h) b = ((Lf (fOp K a)).length : Int) := by
    obtain ⟨n, e1, rfl, e3⟩ := hb6
    rw [bc_cb _ n e1]
    exact (Lf_len (fOp K a) (fun p hp => (e3 p hp).trans ⟨fun z => ind_1.mp z.2, fun z => ⟨hp, ind_1.mpr z⟩⟩) 6 0 (by omega)).symm
  generalize hT : x_up (x_up (x_up (S_X0_copyFrom s 13 0) 0 13 9 h) 19 0 3 (V_J6_bitCount_0f7a4 (x_up (S_X0_copyFrom s 13 0) 0 13 9 h) b)) 19 0 4 (-1) = T at *
  have t4 : T 19 0 4 = -1 := by rw [← hT, x_up_y rfl]
  have t3 : T 19 0 3 = ((Lf (fOp K a)).length : Int) := by rw [← hT, x_up_k (by omega), x_up_y rfl, hbc]
  have ft : ∀ t i k, t ≠ 19 → T t i k = x_up (S_X0_copyFrom s 13 0) 0 13 9 h t i k := fun t i k hne => by rw [← hT, x_up_k (by omega), x_up_k (by omega)]
  have hWs := aSt_W hW hh
  have hlen : (Lf (fOp K a)).length ≤ 6 := opb_le _ _ _
  have hE := ext hK hF 6 0 (fOp K a) b T (aSt a h) [] [] hlen (by omega) rfl (fun q _ hq => (of_decide_eq_true hq).1) hb6 (c1.same (fun t ht k => ft _ _ _ (by omega))) (r1.same (fun t h1 h2 k => ft _ _ _ (by omega))) (aW_mono hWs (by omega)) (aN_st hN) (fun j hj => by omega) (by rw [t4]; have := (uW_in (K := K) (a := aSt a h) (S := fun q => fOp K a q = true) hF).1; omega) (by rw [t4]; omega) (Or.inr (by rw [t4]; omega))
  rw [t4, Nat.zero_add] at hE
  have hb0 : 0 ≤ (bestOf F K a h).1 := by
    match e : px (Lf (fOp K a)).length (Lf (fOp K a)), px_ne (fOp K a) with
    | l :: ls, _ =>
      unfold bestOf
      rw [e]
      exact Int.le_trans (Wt_in hF).1 (fO_mem (fun l => Wt F K (aRun F K l (aSt a h))) [] (l :: ls) (-1, []) l (List.mem_cons_self ..))
  unfold V_X1_run S_X1_run
  rw [l1, l2]
  refine ⟨hE.1, ?_, by rw [SX_193, t3]⟩
  rcases hE.2.1 with z | z
  · exact z
  · exact absurd z (by have := hb0; unfold bestOf at this; omega)
/-- the reference, all rows -/
theorem is32 {h1 a2 : Int} {R : Nat} : ∀ (k j : Nat) (m : xMi), (∀ q, j ≤ q → q < j + k → IS_X7_mostBy_32 h1 a2 R k j m 45 0 q = m 44 0 q) ∧ (∀ q, q < j → IS_X7_mostBy_32 h1 a2 R k j m 45 0 q = m 45 0 q) := by
  intro k
  induction k with
  | zero => intro j m; exact ⟨fun q h1 h2 => by omega, fun q _ => rfl⟩
  | succ k ih =>
    intro j m
    have h := ih (j + 1) (x_up m 45 0 j (m 44 0 j))
    unfold IS_X7_mostBy_32
    refine ⟨fun q h1 h2 => ?_, fun q hq => by rw [h.2 q (by omega), x_up_k (by omega)]⟩
    by_cases c : q = j
    · subst c; rw [h.2 q (by omega), x_up_y rfl]
    · rw [h.1 q (by omega) (by omega), x_up_k (by omega)]
theorem RV_0 (h1 : Int) (K R : Nat) : ∀ (k : Nat) (m : xMi) (a : Int), RV_X7_mostBy_9 h1 K R k m 0 a = a ∧ RS_X7_mostBy_9 h1 K R k m 0 a = m
  | 0, m, a => ⟨rfl, rfl⟩
  | k + 1, m, a => by
    unfold RV_X7_mostBy_9 RS_X7_mostBy_9
    rw [xw0, if_pos rfl, if_pos rfl]
    exact ⟨rfl, rfl⟩
theorem rm_loop {K R : Nat} {h1 : Int} {F a : aS} (hK : K ≤ 6) (hR : R ≤ 6) (hh : 0 ≤ h1 ∧ h1 ≤ 20) (hF : aF K F) (hW : aW K 999 a) (hN : aN F K a) : ∀ (k : Nat) (m : xMi) (c : Int) (b p : List Nat) (r : List (List Nat)), chk (p :: r) = true → r.length < k → (∀ l, l ∈ p :: r → ∀ q, q ∈ l → q < K) → Rw R m p → m 24 0 31 = (R : Int) → rA m = a → rF m = F → -4 ≤ c → c ≤ 100 → (Bc 45 R m b ∨ c < 0) →
    RV_X7_mostBy_9 h1 K R k m 1 c = (fO (fun l => Wt F K (aRun F K l (aSt a h1))) [] (p :: r) (c, b)).1 ∧ Bc 45 R (RS_X7_mostBy_9 h1 K R k m 1 c) (fO (fun l => Wt F K (aRun F K l (aSt a h1))) [] (p :: r) (c, b)).2 ∧ rA (RS_X7_mostBy_9 h1 K R k m 1 c) = a ∧ RS_X7_mostBy_9 h1 K R k m 1 c 24 0 31 = (R : Int) := by
  intro k
  induction k with
  | zero => intro m c b p r _ hk; omega
  | succ k ih =>
    intro m c b p r hc hk hpr hRw hr hA hFm h4 h100 hB
    obtain ⟨g1, g2⟩ := gb_all (h1 := h1) hK hR hh (by rw [hFm]; exact hF) (by rw [hA]; exact hW) (by rw [hA, hFm]; exact hN) (hpr p (List.mem_cons_self ..)) hRw hr
    rw [hA, hFm] at g1
    have hWt := Wt_in (K := K) (a := aRun F K p (aSt a h1)) hF
    have key : ∀ (X : xMi) (c' : Int) (b' : List Nat), (∀ j, X 44 0 j = m 44 0 j) → X 24 0 31 = m 24 0 31 → rA X = a → rF X = F → -4 ≤ c' → c' ≤ 100 → Bc 45 R X b' → RV_X7_mostBy_9 h1 K R k (S_X7_nextRow X R) (V_X7_nextRow X R) c' = (fO (fun l => Wt F K (aRun F K l (aSt a h1))) [] r (c', b')).1 ∧ Bc 45 R (RS_X7_mostBy_9 h1 K R k (S_X7_nextRow X R) (V_X7_nextRow X R) c') (fO (fun l => Wt F K (aRun F K l (aSt a h1))) [] r (c', b')).2 ∧ rA (RS_X7_mostBy_9 h1 K R k (S_X7_nextRow X R) (V_X7_nextRow X R) c') = a ∧ RS_X7_mostBy_9 h1 K R k (S_X7_nextRow X R) (V_X7_nextRow X R) c' 24 0 31 = (R : Int) := by
      intro X c' b' e1 e2 e3 e4 e5 e6 e7
      have hX := Rw_nextRow hR (Rw_cg hRw e1) (e2.trans hr)
      have fN : ∀ t i j, t ≠ 44 → S_X7_nextRow X R t i j = X t i j := fun t i j hne => fr_S_X7_nextRow _ _ hne
      have nA : rA (S_X7_nextRow X R) = a := by
        rw [← e3]; funext j q; unfold rA
        split
        · exact fN _ _ _ (by omega)
        · split
          · exact fN _ _ _ (by omega)
          · rfl
      have nF : rF (S_X7_nextRow X R) = F := by
        rw [← e4]; funext j q; unfold rF
        split
        · exact fN _ _ _ (by omega)
        · rfl
      have nB : Bc 45 R (S_X7_nextRow X R) b' := fun j hj => by rw [fN _ _ _ (by omega)]; exact e7 j hj
      have n31 : S_X7_nextRow X R 24 0 31 = (R : Int) := by rw [fN _ _ _ (by omega)]; exact e2.trans hr
      cases r with
      | nil =>
        rw [chk, beq_iff_eq] at hc
        rw [hc] at hX
        rw [hX.2, (RV_0 h1 K R k _ c').1, (RV_0 h1 K R k _ c').2]
        exact ⟨rfl, nB, nA, n31⟩
      | cons q r =>
        rw [chk, Bool.and_eq_true, beq_iff_eq] at hc
        rw [hc.1] at hX
        rw [hX.2]
        exact ih _ c' b' q r hc.2 (by rw [List.length_cons] at hk; omega) (fun l hl => hpr l (List.mem_cons_of_mem _ hl)) hX.1 n31 nA nF e5 e6 (Or.inl nB)
    have gA := g2.1.1.trans hA
    have gF := g2.1.2.1.trans hFm
    have g44 : ∀ j, S_X7_gentleBy m h1 K R 44 0 j = m 44 0 j := fun j => g2.2 _ _ _ (by omega) (by omega)
    have g31 : S_X7_gentleBy m h1 K R 24 0 31 = m 24 0 31 := g2.2 _ _ _ (by omega) (by omega)
    unfold RV_X7_mostBy_9 RS_X7_mostBy_9
    have n10 : ¬ (1 : Int) = 0 := by decide
    rw [xw1, if_neg n10, if_neg n10, g1, x_wrs (a := Wt F K (aRun F K p (aSt a h1))) (by omega) (by omega), x_wrs (a := c) (by omega) (by omega)]
    have eO : ∀ b0, fO (fun l => Wt F K (aRun F K l (aSt a h1))) [] (p :: r) b0 = fO (fun l => Wt F K (aRun F K l (aSt a h1))) [] r (if b0.1 < Wt F K (aRun F K p (aSt a h1)) then (Wt F K (aRun F K p (aSt a h1)), [] ++ p) else b0) := fun b0 => rfl
    rw [eO]
    by_cases d : Wt F K (aRun F K p (aSt a h1)) ≤ c
    · rw [if_pos d, if_pos d, if_neg (by show ¬ c < _; omega)]
      refine key _ c b g44 g31 gA gF h4 h100 ?_
      rcases hB with hB | hB
      · exact fun j hj => by rw [g2.2 _ _ _ (by omega) (by omega)]; exact hB j hj
      · omega
    · rw [if_neg d, if_neg d, if_pos (by show c < _; omega)]
      have fI : ∀ t i j, t ≠ 45 → IS_X7_mostBy_32 h1 (Wt F K (aRun F K p (aSt a h1))) R R 0 (S_X7_gentleBy m h1 K R) t i j = S_X7_gentleBy m h1 K R t i j := fun t i j hne => fr_IS_X7_mostBy_32 _ _ _ hne _ _ _
      refine key _ _ ([] ++ p) (fun j => by rw [fI _ _ _ (by omega)]; exact g44 j) (by rw [fI _ _ _ (by omega)]; exact g31) ?_ ?_ (by omega) (by omega) (fun j hj => ?_)
      · refine Eq.trans ?_ gA; funext j q; unfold rA
        split
        · exact fI _ _ _ (by omega)
        · split
          · exact fI _ _ _ (by omega)
          · rfl
      · refine Eq.trans ?_ gF; funext j q; unfold rF
        split
        · exact fI _ _ _ (by omega)
        · rfl
      · rw [(is32 R 0 _).1 j (by omega) (by omega), g44, List.nil_append]
        exact (hRw.2 j hj).1
theorem opl_eq {K : Nat} {m : xMi} (hK : K ≤ 6) (hW : aW K 999 (rA m)) : opl m K = Lf (fOp K (rA m)) := by
  have e1 : ∀ (f : Nat → Bool) (k k2 p : Nat), opb f (k + k2) p = opb f k p ++ opb f k2 (p + k) := by
    intro f k
    induction k with
    | zero => intro k2 p; rw [Nat.zero_add, Nat.add_zero]; rfl
    | succ k ih =>
      intro k2 p
      rw [(by omega : k + 1 + k2 = (k + k2) + 1), opb, opb, ih k2 (p + 1), (by omega : p + 1 + k = p + (k + 1))]
      split <;> simp
  have e2 : Lf (fOp K (rA m)) = opb (fOp K (rA m)) K 0 := by
    unfold Lf
    rw [(by omega : 6 = K + (6 - K)), e1]
    have : opb (fOp K (rA m)) (6 - K) (0 + K) = [] := by
      rw [List.eq_nil_iff_forall_not_mem]
      intro x hx
      have h1 := (opb_mem _ _ _ _).mp hx
      have := (of_decide_eq_true h1.2.2).1
      omega
    rw [this, List.append_nil]
  rw [e2]
  unfold opl
  refine opb_cg _ _ K 0 (fun j _ hj => ?_)
  unfold isOp fOp
  rw [rA_isOpen hK (by decide) hW (by omega)]
  by_cases c : aOpen (rA m) j
  · rw [if_pos c, xw1]
    have : decide (j < K ∧ aOpen (rA m) j) = true := decide_eq_true ⟨by omega, c⟩
    rw [this]; decide
  · rw [if_neg c, xw0]
    have : decide (j < K ∧ aOpen (rA m) j) = false := decide_eq_false (fun z => c z.2)
    rw [this]; decide
theorem most_all {K : Nat} {m : xMi} {h : Int} (hK : K ≤ 6) (hh : 0 ≤ h ∧ h ≤ 20) (hF : aF K (rF m)) (hW : aW K 999 (rA m)) (hN : aN (rF m) K (rA m)) : V_X7_most m h K = (bestOf (rF m) K (rA m) h).1 ∧ Bc 45 (Lf (fOp K (rA m))).length (S_X7_most m h K) (bestOf (rF m) K (rA m) h).2 ∧ rA (S_X7_most m h K) = rA m ∧ S_X7_most m h K 24 0 31 = ((Lf (fOp K (rA m))).length : Int) := by
  have hL := opl_eq hK hW
  have hch := chk_opl m hK
  have hf := Rw_first m hK
  have hn : opn m K = (Lf (fOp K (rA m))).length := by unfold opn; rw [hL]
  rw [hL] at hch hf
  have fF : ∀ t i k, ¬ ((t = 24 ∧ k = 31) ∨ t = 44) → S_X7_firstRow m K t i k = m t i k := fun t i k hne => fr_S_X7_firstRow _ _ hne
  have fA : rA (S_X7_firstRow m K) = rA m := by
    funext j q; unfold rA
    split
    · exact fF _ _ _ (by omega)
    · split
      · exact fF _ _ _ (by omega)
      · rfl
  have fFF : rF (S_X7_firstRow m K) = rF m := by
    funext j q; unfold rF
    split
    · exact fF _ _ _ (by omega)
    · rfl
  unfold V_X7_most S_X7_most V_X7_mostBy S_X7_mostBy bestOf
  rw [hn]
  match e : px (Lf (fOp K (rA m))).length (Lf (fOp K (rA m))), px_ne (fOp K (rA m)) with
  | p :: r, _ =>
    rw [e] at hch
    have e2 : p = Lf (fOp K (rA m)) := Option.some.inj hch.2.1
    have hmem : ∀ l, l ∈ p :: r → ∀ q, q ∈ l → q < K := fun l hl q hq => by
      rw [← e] at hl
      have := (px_mem _ _ _ hl).2.1 q hq
      exact (of_decide_eq_true ((opb_mem _ _ _ _).mp this).2.2).1
    have hl := rm_loop (h1 := h) hK (opb_le _ _ _) hh hF hW hN 720 (S_X7_firstRow m K) (-4) [] p r hch.1 (by have := hch.2.2; rw [List.length_cons] at this; omega) hmem (by rw [e2]; exact hf.1) hf.2 fA fFF (by omega) (by omega) (Or.inr (by omega))
    rw [fO_first (b := (-4, [])) (b' := (-1, [])) (by simp) (fun l _ => (Wt_in hF).1) (by show (-4 : Int) < 0; decide) (by show (-1 : Int) < 0; decide)] at hl
    exact hl
/-- no stock brings more than twenty do -/
theorem best_le {F a : aS} {K : Nat} {h : Int} (hF : aF K F) (hK : K ≤ 6) (hW : aW K 999 a) (hN : aN F K a) (hh : 0 ≤ h ∧ h ≤ 20) : (bestOf F K a h).1 ≤ (bestOf F K a 20).1 := by
  unfold bestOf
  refine fO_mono _ _ _ _ (Int.le_refl _) (fun l hl => ?_)
  have hm := px_mem _ _ _ hl
  have hop : ∀ q, q ∈ l → q < K ∧ aOpen a q := fun q hq => of_decide_eq_true ((opb_mem _ _ _ _).mp (hm.2.1 q hq)).2.2
  have es : ∀ (v : Int) (q j : Nat), j < 8 → aSt a v j q = a j q := fun v q j hj => by unfold aSt; rw [if_neg (by omega)]
  have e0 : ∀ v : Int, aSt a v 8 0 = a 8 0 := fun v => by unfold aSt; simp
  have e2 : ∀ v : Int, aSt a v 8 2 = a 8 2 := fun v => by unfold aSt; simp
  refine run_mono hF l 999 (aSt a h) (aSt a 20) (aSt_W hW hh) (aN_st hN) (aSt_W hW (by omega)) (aN_st hN) (hm.2.2 (opb_nodup _ _ _)) (fun q hq => (hop q hq).1) (by rw [e0, e0]) (by rw [e2, e2]) (fun q hq hE => ?_) (fun q hq => ?_) ?_
  · have r : ∀ v : Int, aES F (aSt a v) q ↔ aES F a q := fun v => by
      unfold aES
      rw [e0]
      exact rES_cong (fun j hj => es v q j hj)
    exact (r 20).mpr ((r h).mp hE)
  · have := (hop q hq).2
    rw [es _ _ _ (by omega), es _ _ _ (by omega), es _ _ _ (by omega), es _ _ _ (by omega), es _ _ _ (by omega), es _ _ _ (by omega)]
    exact ⟨this.1, this.1, rfl, rfl⟩
  · have h1 := cn0_le (aSt a 20) K 0
    have h2 : l.length ≤ 6 := by rw [hm.1]; exact opb_le _ _ _
    have h3 : aSt a 20 8 1 = 20 := by unfold aSt; simp
    omega
theorem most_R {K : Nat} {m : xMi} {h : Int} (hA : rA (S_X7_most m h K) = rA m) : sR m (S_X7_most m h K) := by
  have f : ∀ t k, ¬ (t = 43 ∨ t = 44 ∨ t = 45 ∨ (t = 24 ∧ k = 31) ∨ (t = 24 ∧ 5 ≤ k ∧ k ≤ 8) ∨ (29 ≤ t ∧ t ≤ 36)) → S_X7_most m h K t 0 k = m t 0 k := fun t k hne => fr_S_X7_most m h K hne
  refine ⟨hA, ?_, f _ _ (by omega), f _ _ (by omega), f _ _ (by omega), f _ _ (by omega), f _ _ (by omega), fun t k z => f _ _ (by omega)⟩
  funext j q; unfold rF
  split
  · exact f _ _ (by omega)
  · rfl
theorem run_s {s : xMi} {h : Int} {K : Nat} : sC s (S_X1_run s h K) ∧ eM s (S_X1_run s h K) := ⟨fun t i k a b c d e f g => fr_S_X1_run _ _ _ (by omega), fun t i k ht => fr_S_X1_run _ _ _ (by omega)⟩
theorem Rl.most {K u τ v τ1 z w : Nat} {σ s' m' : xMi} (h : Rl K u τ v τ1 z w σ σ) (hM : eM σ s') (hC : sC σ s') (hR : sR s' m') (hO : pO m') (he : eC s' m') : RR m' := by
  have h' := (h.begun hM).scr hC (sR.rf _) (hM.O h.2.2.2.2.2.2)
  exact ⟨_, _, _, _, _, _, _, (h'.scr (sC.rf _) hR hO).done he⟩
theorem xw5 : x_wr 5 = 5 := by decide
theorem m_order {K u τ v τ1 z w : Nat} {σ : xMi} (h : Rl K u τ v τ1 z w σ σ) {k1 : Int} (hw : x_wr k1 = k1) : V_X6_order σ k1 K = V_X7_order (S_X6_order σ k1 K) k1 K ∧ RR (S_X7_order (S_X6_order σ k1 K) k1 K) := by
  obtain ⟨hk, hg0, hU, hV, hZ, hT, hO⟩ := id h
  have hK := hk.2.1
  have hst := hg0.2.1.2.1
  unfold V_X6_order S_X6_order
  rw [hw, xwm1, xw6]
  by_cases c : -1 ≤ k1 ∧ k1 ≤ 5
  · have c0 : ¬ k1 < -1 := by omega
    have c1 : k1 < 6 := by omega
    rw [if_neg c0, if_neg c0, if_pos c1, if_pos c1, hg0.1.1.2.1]
    have hr := run_all (F := rF σ) (h := rA σ 8 1) hK hk.2.2.2.2.2 hg0.1 hk.2.2.2.2.1 hg0.2.1 hg0.2.2 hst
    have rs := run_s (s := σ) (h := rA σ 8 1) (K := K)
    have eS : (if k1 = -1 then S_X1_run σ (rA σ 8 1) K else if x_wr (S_X1_run σ (rA σ 8 1) K 19 0 3) ≤ k1 then S_X1_run σ (rA σ 8 1) K else S_X1_run σ (rA σ 8 1) K) = S_X1_run σ (rA σ 8 1) K := by (repeat' split) <;> rfl
    rw [eS]
    generalize S_X1_run σ (rA σ 8 1) K = S at *
    have hA := rs.2.R
    have hs6 : S 24 0 6 = rA σ 8 1 := by rw [← hA.1]; rfl
    have hm := most_all (m := S) (h := rA σ 8 1) hK hst (by rw [hA.2.1]; exact hk.2.2.2.2.2) (by rw [hA.1]; exact hg0.2.1) (by rw [hA.1, hA.2.1]; exact hg0.2.2)
    rw [hA.1, hA.2.1] at hm
    have b1 : ¬ x_wr (V_X7_in S k1 (-1) 5) = 0 := by rw [v_in hw (by omega) (by omega)]; exact fun z => i01.mp z c
    have hlen : (Lf (fOp K (rA σ))).length ≤ 6 := opb_le _ _ _
    unfold V_X7_order S_X7_order
    rw [if_neg b1, if_neg b1, hw, hs6, hr.1, hr.2.2, hm.1, hm.2.2.2, x_nat (by omega : (Lf (fOp K (rA σ))).length < 2147483648)]
    refine ⟨?_, ?_⟩
    · by_cases d : k1 = -1
      · rw [if_pos d, if_neg (by omega)]
      · have d0 : 0 ≤ k1 := by omega
        rw [if_neg d, if_pos d0]
        by_cases e : ((Lf (fOp K (rA σ))).length : Int) ≤ k1
        · rw [if_pos e, if_pos e]
        · rw [if_neg e, if_neg e, hr.2.1 k1.toNat (by omega), hm.2.1 k1.toNat (by omega)]
    · have eS7 : (if 0 ≤ k1 then if ((Lf (fOp K (rA σ))).length : Int) ≤ k1 then S_X7_most S (rA σ 8 1) K else S_X7_most S (rA σ 8 1) K else S_X7_most S (rA σ 8 1) K) = S_X7_most S (rA σ 8 1) K := by (repeat' split) <;> rfl
      rw [eS7]
      exact h.most rs.2 rs.1 (most_R (by rw [hm.2.2.1, hA.1])) (hw_most S _ hK (rs.2.O hO)) (fun t i k ht => fr_S_X7_most _ _ _ (by omega))
  · have b1 : x_wr (V_X7_in σ k1 (-1) 5) = 0 := by rw [v_in hw (by omega) (by omega)]; exact i01.mpr c
    by_cases c0 : k1 < -1
    · rw [if_pos c0, if_pos c0]
      unfold V_X7_order S_X7_order
      rw [if_pos b1, if_pos b1]
      exact ⟨rfl, _, _, _, _, _, _, _, h⟩
    · have c1 : ¬ k1 < 6 := by omega
      rw [if_neg c0, if_neg c0, if_neg c1, if_neg c1]
      unfold V_X7_order S_X7_order
      rw [if_pos b1, if_pos b1]
      exact ⟨rfl, _, _, _, _, _, _, _, h⟩

/-- how many hampers that needs -/
theorem need_cls {K : Nat} {F a : aS} (hK : K ≤ 6) (hF : aF K F) (hW : aW K 999 a) (hN : aN F K a) : ∀ (k e : Nat) (s m : xMi), e + k = 20 → cF 0 s K a → cR 0 s K F → rA m = a → rF m = F → pO m →
    RV_X6_need_16 K k e s (bestOf F K a 20).1 = RV_X7_need_9 K k e m (bestOf F K a 20).1 ∧ RP_X7_need_9 K k e m (bestOf F K a 20).1 ∧ (sC s (RS_X6_need_16 K k e s (bestOf F K a 20).1) ∧ eM s (RS_X6_need_16 K k e s (bestOf F K a 20).1)) ∧ sR m (RS_X7_need_9 K k e m (bestOf F K a 20).1) ∧ pO (RS_X7_need_9 K k e m (bestOf F K a 20).1) := by
  have b0 : ∀ h : Int, -1 ≤ (bestOf F K a h).1 ∧ (bestOf F K a h).1 ≤ 100 := fun h => ⟨by unfold bestOf; exact fO_ge _ _ _ (-1, []), by unfold bestOf; exact fO_le _ _ _ _ (by show (-1 : Int) ≤ 100; decide) (fun l _ => by have := (Wt_in (K := K) (a := aRun F K l (aSt a h)) hF).2; omega)⟩
  intro k
  induction k with
  | zero =>
    intro e s m he hC hR hA hFm hO
    have he20 : e = 20 := by omega
    have hm := most_all (m := m) (h := (e : Int)) hK (by omega) (by rw [hFm]; exact hF) (by rw [hA]; exact hW) (by rw [hA, hFm]; exact hN)
    rw [hA, hFm] at hm
    unfold RV_X6_need_16 RV_X7_need_9 RP_X7_need_9 RS_X6_need_16 RS_X7_need_9
    refine ⟨by rw [he20]; rfl, ?_, ⟨sC.rf s, fun _ _ _ _ => rfl⟩, most_R (by rw [hm.2.2.1, hA]), hw_most m _ hK hO⟩
    rw [hm.1, he20]
    exact Int.le_refl _
  | succ k ih =>
    intro e s m he hC hR hA hFm hO
    have hm := most_all (m := m) (h := (e : Int)) hK (by omega) (by rw [hFm]; exact hF) (by rw [hA]; exact hW) (by rw [hA, hFm]; exact hN)
    rw [hA, hFm] at hm
    have hr := run_all (s := s) (h := (e : Int)) hK hF hC hR hW hN (by omega)
    have hle := best_le (h := (e : Int)) hF hK hW hN (by omega)
    have be := b0 (e : Int)
    have b2 := b0 20
    have rs := run_s (s := s) (h := (e : Int)) (K := K)
    have hsR : sR m (S_X7_most m (e : Int) K) := most_R (by rw [hm.2.2.1, hA])
    have hpO : pO (S_X7_most m (e : Int) K) := hw_most m _ hK hO
    unfold RV_X6_need_16 RV_X7_need_9 RP_X7_need_9 RS_X6_need_16 RS_X7_need_9
    rw [hr.1, hm.1, x_wrs (a := (bestOf F K a (e : Int)).1) (by omega) (by omega), x_wrs (a := (bestOf F K a 20).1) (by omega) (by omega)]
    by_cases c : (bestOf F K a (e : Int)).1 = (bestOf F K a 20).1
    · have c2 : (bestOf F K a 20).1 ≤ (bestOf F K a (e : Int)).1 := by omega
      rw [if_pos c, if_pos c, if_pos c2, if_pos c2, if_pos c2]
      exact ⟨rfl, trivial, rs, hsR, hpO⟩
    · have c2 : ¬ (bestOf F K a 20).1 ≤ (bestOf F K a (e : Int)).1 := by omega
      rw [if_neg c, if_neg c, if_neg c2, if_neg c2, if_neg c2]
      have i := ih (e + 1) (S_X1_run s (e : Int) K) (S_X7_most m (e : Int) K) (by omega) (hC.same (fun t ht j => rs.1 _ _ _ (by omega) (by omega) (by omega) (by omega) (by omega) (by omega) (by omega))) (hR.same (fun t h1 h2 j => rs.1 _ _ _ (by omega) (by omega) (by omega) (by omega) (by omega) (by omega) (by omega))) (hsR.1.trans hA) (hsR.2.1.trans hFm) hpO
      exact ⟨i.1, i.2.1, ⟨rs.1.tr i.2.2.1.1, rs.2.tr i.2.2.1.2⟩, hsR.tr i.2.2.2.1, i.2.2.2.2⟩
theorem m_need {K u τ v τ1 z w : Nat} {σ : xMi} (h : Rl K u τ v τ1 z w σ σ) : V_X6_need σ K = V_X7_need (S_X6_need σ K) K ∧ RR (S_X7_need (S_X6_need σ K) K) ∧ RP_X7_need_9 K 20 0 (S_X7_most (S_X6_need σ K) 20 K) (V_X7_most (S_X6_need σ K) 20 K) := by
  obtain ⟨hk, hg0, hU, hV, hZ, hT, hO⟩ := id h
  have hK := hk.2.1
  have hF := hk.2.2.2.2.2
  have hr := run_all (F := rF σ) (h := 20) hK hF hg0.1 hk.2.2.2.2.1 hg0.2.1 hg0.2.2 (by omega)
  have rs := run_s (s := σ) (h := 20) (K := K)
  have hC1 : cF 0 (S_X1_run σ 20 K) K (rA σ) := hg0.1.same (fun t ht j => rs.1 _ _ _ (by omega) (by omega) (by omega) (by omega) (by omega) (by omega) (by omega))
  have hR1 : cR 0 (S_X1_run σ 20 K) K (rF σ) := hk.2.2.2.2.1.same (fun t h1 h2 j => rs.1 _ _ _ (by omega) (by omega) (by omega) (by omega) (by omega) (by omega) (by omega))
  have n1 := need_cls hK hF hg0.2.1 hg0.2.2 20 0 (S_X1_run σ 20 K) σ (by omega) hC1 hR1 rfl rfl hO
  have hS : sC σ (S_X6_need σ K) ∧ eM σ (S_X6_need σ K) := by
    unfold S_X6_need
    rw [hr.1]
    exact ⟨rs.1.tr n1.2.2.1.1, rs.2.tr n1.2.2.1.2⟩
  unfold V_X6_need
  rw [hr.1]
  generalize S_X6_need σ K = S at *
  have hA := hS.2.R
  have hm := most_all (m := S) (h := 20) hK (by omega) (by rw [hA.2.1]; exact hF) (by rw [hA.1]; exact hg0.2.1) (by rw [hA.1, hA.2.1]; exact hg0.2.2)
  rw [hA.1, hA.2.1] at hm
  have hsR : sR S (S_X7_most S 20 K) := most_R (by rw [hm.2.2.1, hA.1])
  have hpO : pO (S_X7_most S 20 K) := hw_most S _ hK (hS.2.O hO)
  have n2 := need_cls hK hF hg0.2.1 hg0.2.2 20 0 (S_X1_run σ 20 K) (S_X7_most S 20 K) (by omega) hC1 hR1 (hsR.1.trans hA.1) (hsR.2.1.trans hA.2.1) hpO
  unfold V_X7_need S_X7_need
  rw [hm.1]
  refine ⟨n2.1, ?_, n2.2.1⟩
  refine h.most hS.2 hS.1 (hsR.tr n2.2.2.2.1) n2.2.2.2.2 (fun t i k ht => ?_)
  rw [fr_RS_X7_need_9 K (by omega), fr_S_X7_most _ _ _ (by omega)]
