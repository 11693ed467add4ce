/-! the reference: how gentle it is by a row, and the most of all rows -/
theorem aRun_W {F : aS} {K : Nat} (hF : aF K F) : ∀ (l : List Nat) (D : Int) (a : aS), aW K D a → aN F K a → (∀ q, q ∈ l → q < K) → aW K (D + l.length) (aRun F K l a) ∧ aN F K (aRun F K l a) := by
  intro l
  induction l with
  | nil => intro D a hW hN _; exact ⟨aW_mono hW (by simp), hN⟩
  | cons p l ih =>
    intro D a hW hN h
    have hG := aGo_W hF hW hN (h p (List.mem_cons_self ..))
    have := ih (D + 1) _ hG.1 hG.2 (fun q hq => h q (List.mem_cons_of_mem _ hq))
    exact ⟨aW_mono this.1 (by rw [List.length_cons]; omega), this.2⟩
theorem gb_rest {K R : Nat} {h1 : Int} {F : aS} (hK : K ≤ 6) (hF : aF K F) : ∀ (k e : Nat) (m : xMi) (D : Int), D + k ≤ 100000 → e + k ≤ 1000 → R ≤ e → m 24 0 31 = (R : Int) → rF m = F → aW K D (rA m) → ∃ mX, sG m mX ∧ rA mX = aPs F K k (rA m) ∧ RV_X7_gentleBy_11 h1 K R k e m = V_X7_softWeight mX K ∧ RS_X7_gentleBy_11 h1 K R k e m = S_X7_putBack mX := by
  intro k
  induction k with
  | zero => intro e m D _ _ _ _ _ _; exact ⟨m, sG.rf m, rfl, rfl, rfl⟩
  | succ k ih =>
    intro e m D hD he hR hr hFm hW
    have hP := rA_passes (m := m) (b := 0) (D := D) hK xw0 (by omega) (by rw [hFm]; exact hF) hW
    rw [hFm] at hP
    obtain ⟨mX, i1, i2, i3, i4⟩ := ih (e + 1) (S_X7_passes m 0 K) (D + 1) (by omega) (by omega) (by omega) (by rw [sM_passes m 0 K 24 31 (by omega)]; exact hr) (by rw [(sM_passes m 0 K).F]; exact hFm) (by rw [hP.1]; exact aP_W hW)
    refine ⟨mX, (sG_passes m 0 K).tr i1, by rw [i2, hP.1]; rfl, ?_, ?_⟩
    · unfold RV_X7_gentleBy_11
      rw [hr, x_nat (by omega : R < 2147483648), x_nat (by omega : e < 2147483648), if_pos (by omega)]
      exact i3
    · unfold RS_X7_gentleBy_11
      rw [hr, x_nat (by omega : R < 2147483648), x_nat (by omega : e < 2147483648), if_pos (by omega)]
      exact i4
theorem gb_row {K R : Nat} {h1 : Int} {F : aS} {p : List Nat} (hK : K ≤ 6) (hR : R ≤ 6) (hF : aF K F) : ∀ (l : List Nat) (k e : Nat) (m : xMi) (D : Int), l = p.drop e → (∀ q, q ∈ l → q < K) → D + k + l.length ≤ 100000 → 41 ≤ k → e + k + l.length ≤ 1000 → e + l.length = R → Rw R m p → m 24 0 31 = (R : Int) → rF m = F → aW K D (rA m) → aN F K (rA m) → ∃ mX, sG m mX ∧ RV_X7_gentleBy_11 h1 K R (l.length + k) e m = Wt F K (aRun F K l (rA m)) ∧ RS_X7_gentleBy_11 h1 K R (l.length + k) e m = S_X7_putBack mX := by
  intro l
  induction l with
  | nil =>
    intro k e m D hl _ hD hk he hR' hRw hr hFm hW hN
    obtain ⟨mX, i1, i2, i3, i4⟩ := gb_rest (h1 := h1) (R := R) hK hF k e m D (by simpa using hD) (by simpa using he) (by simp at hR'; omega) hr hFm hW
    refine ⟨mX, i1, ?_, by rw [List.length_nil, Nat.zero_add]; exact i4⟩
    rw [List.length_nil, Nat.zero_add, i3, w_ref (D := D + k) hK (by rw [i2]; exact aPs_W k D _ hW), i1.M.F, hFm, i2]
    exact wS_cong _ _ (fun q _ hq => by rw [esI_1]; exact aSoft hF hW hN (by omega) hk)
  | cons x l ih =>
    intro k e m D hl hlK hD hk he hR' hRw hr hFm hW hN
    rw [List.length_cons] at hD he hR'
    have hx := hlK x (List.mem_cons_self ..)
    have hge : p.getD e 0 = x := by
      have h1 : (p.drop e)[0]? = some x := by rw [← hl]; rfl
      rw [List.getElem?_drop, Nat.add_zero] at h1
      rw [List.getD_eq_getElem?_getD, h1]; rfl
    have hd1 : l = p.drop (e + 1) := by
      have : (p.drop e).drop 1 = l := by rw [← hl]; rfl
      rw [List.drop_drop] at this; exact this.symm
    have hrow : (m 44 0 e).toNat = x := by rw [(hRw.2 e (by omega)).1, hge]; rfl
    have hmay := rA_maySend (m := m) (D := D) hK (by omega) hW hx
    have n1 : ¬ ((R : Int) ≤ (e : Int)) := by omega
    have key : ∀ m1, rA m1 = (if aMay (rA m) x then aSend F (rA m) x else rA m) → sG m m1 → ∃ mX, sG m mX ∧ RV_X7_gentleBy_11 h1 K R (l.length + k) (e + 1) (S_X7_passes m1 0 K) = Wt F K (aRun F K (x :: l) (rA m)) ∧ RS_X7_gentleBy_11 h1 K R (l.length + k) (e + 1) (S_X7_passes m1 0 K) = S_X7_putBack mX := by
      intro m1 hA1 hG1
      have hM := aMay_W hF hW hN hx
      have hF1 : rF m1 = F := hG1.M.F.trans hFm
      have hP := rA_passes (m := m1) (b := 0) (D := D) hK xw0 (by omega) (by rw [hF1]; exact hF) (by rw [hA1]; exact hM.1)
      rw [hF1, hA1] at hP
      obtain ⟨mX, i1, i2, i3⟩ := ih k (e + 1) (S_X7_passes m1 0 K) (D + 1) hd1 (fun q hq => hlK q (List.mem_cons_of_mem _ hq)) (by omega) hk (by omega) (by omega) (Rw_cg hRw (fun j => by rw [sM_passes m1 0 K 44 j (by omega), hG1 44 0 j (by omega)])) (by rw [sM_passes m1 0 K 24 31 (by omega), hG1 24 0 31 (by omega)]; exact hr) (by rw [(sM_passes m1 0 K).F]; exact hF1) (by rw [hP.1]; exact aP_W hM.1) (by rw [hP.1]; exact aN_P hM.1)
      refine ⟨mX, (hG1.tr (sG_passes m1 0 K)).tr i1, ?_, i3⟩
      rw [i2, hP.1]
      rfl
    have e1 : (x :: l).length + k = (l.length + k) + 1 := by rw [List.length_cons]; omega
    rw [e1]
    unfold RV_X7_gentleBy_11 RS_X7_gentleBy_11
    rw [hr, x_nat (by omega : R < 2147483648), x_nat (by omega : e < 2147483648), hrow, hmay, if_neg n1, if_neg n1]
    by_cases c : aMay (rA m) x
    · have c1 : ¬ x_wr (if aMay (rA m) x then 1 else 0) = 0 := fun z => i01.mp z c
      rw [if_neg c1, if_neg c1]
      exact key (S_X7_sends m x) (by rw [if_pos c, rA_sends (by omega) (by have := (hF x hx).2.1; rw [← hFm] at this; exact this), hFm]) (sG_sends m x)
    · have c1 : x_wr (if aMay (rA m) x then 1 else 0) = 0 := i01.mpr c
      rw [if_pos c1, if_pos c1]
      exact key m (by rw [if_neg c]) (sG.rf m)
/-- the reference's answer for a row -/
theorem gb_all {K R : Nat} {h1 : Int} {m : xMi} {p : List Nat} (hK : K ≤ 6) (hR : R ≤ 6) (hh : 0 ≤ h1 ∧ h1 ≤ 20) (hF : aF K (rF m)) (hW : aW K 999 (rA m)) (hN : aN (rF m) K (rA m)) (hp : ∀ q, q ∈ p → q < K) (hRw : Rw R m p) (hr : m 24 0 31 = (R : Int)) : V_X7_gentleBy m h1 K R = Wt (rF m) K (aRun (rF m) K p (aSt (rA m) h1)) ∧ bk m (S_X7_gentleBy m h1 K R) := by
  have hA := st_A m
  have hg : sG (S_X7_start m) (x_up (S_X7_start m) 24 0 6 h1) := sG_st _ _
  have hA1 : rA (x_up (S_X7_start m) 24 0 6 h1) = aSt (rA m) h1 := by rw [rA_st, hA.1]
  obtain ⟨mX, i1, i2, i3⟩ := gb_row (h1 := h1) (R := R) (F := rF m) (p := p) hK hR hF p (60 - p.length) 0 (x_up (S_X7_start m) 24 0 6 h1) 999 rfl hp (by have := hRw.1; omega) (by have := hRw.1; omega) (by have := hRw.1; omega) (by have := hRw.1; omega) (Rw_cg hRw (fun j => by rw [hg 44 0 j (by omega), fr_S_X7_start m (by omega)])) (by rw [hg 24 0 31 (by omega), fr_S_X7_start m (by omega)]; exact hr) (by rw [hg.M.F]; exact hA.2) (by rw [hA1]; exact aSt_W hW hh) (by rw [hA1]; exact aN_st hN)
  have e60 : p.length + (60 - p.length) = 60 := by have := hRw.1; omega
  rw [e60] at i2 i3
  rw [hA1] at i2
  exact ⟨i2, by unfold S_X7_gentleBy; rw [i3]; exact bk.of (hg.tr i1)⟩
/-- the best of the lists, the first of the best; what stands before is kept -/
def fO (G : List Nat → Int) (pre : List Nat) : List (List Nat) → Int × List Nat → Int × List Nat
  | [], b => b
  | l :: ls, b => fO G pre ls (if b.1 < G l then (G l, pre ++ l) else b)
theorem fO_append (G : List Nat → Int) (pre : List Nat) : ∀ (l1 l2 : List (List Nat)) (b : Int × List Nat), fO G pre (l1 ++ l2) b = fO G pre l2 (fO G pre l1 b) := by
  intro l1
  induction l1 with
  | nil => intro l2 b; rfl
  | cons l l1 ih => intro l2 b; exact ih l2 _
theorem fO_skip (G : List Nat → Int) (pre : List Nat) : ∀ (ls : List (List Nat)) (b : Int × List Nat), (∀ l, l ∈ ls → G l ≤ b.1) → fO G pre ls b = b := by
  intro ls
  induction ls with
  | nil => intro b _; rfl
  | cons l ls ih =>
    intro b h
    unfold fO
    rw [if_neg (by have := h l (List.mem_cons_self ..); omega)]
    exact ih b (fun l' hl' => h l' (List.mem_cons_of_mem _ hl'))
theorem fO_map (G : List Nat → Int) (pre : List Nat) (x : Nat) : ∀ (ls : List (List Nat)) (b : Int × List Nat), fO G pre (ls.map (x :: ·)) b = fO (fun l => G (x :: l)) (pre ++ [x]) ls b := by
  intro ls
  induction ls with
  | nil => intro b; rfl
  | cons l ls ih =>
    intro b
    rw [List.map_cons]
    unfold fO
    rw [ih]
    simp only [List.append_assoc, List.singleton_append]
theorem fO_cong {G G' : List Nat → Int} (pre : List Nat) : ∀ (ls : List (List Nat)) (b : Int × List Nat), (∀ l, l ∈ ls → G l = G' l) → fO G pre ls b = fO G' pre ls b := by
  intro ls
  induction ls with
  | nil => intro b _; rfl
  | cons l ls ih =>
    intro b h
    unfold fO
    rw [h l (List.mem_cons_self ..)]
    exact ih _ (fun l' hl' => h l' (List.mem_cons_of_mem _ hl'))
theorem fO_mono {G G' : List Nat → Int} (pre : List Nat) : ∀ (ls : List (List Nat)) (b b' : Int × List Nat), b.1 ≤ b'.1 → (∀ l, l ∈ ls → G l ≤ G' l) → (fO G pre ls b).1 ≤ (fO G' pre ls b').1 := by
  intro ls
  induction ls with
  | nil => intro b b' h _; exact h
  | cons l ls ih =>
    intro b b' h hl
    have h0 := hl l (List.mem_cons_self ..)
    unfold fO
    refine ih _ _ ?_ (fun l' hl' => hl l' (List.mem_cons_of_mem _ hl'))
    by_cases c : b.1 < G l
    · rw [if_pos c]
      split
      · exact h0
      · show G l ≤ b'.1; omega
    · rw [if_neg c]
      split
      · show b.1 ≤ G' l; omega
      · exact h
theorem fO_le (G : List Nat → Int) (pre : List Nat) {N : Int} : ∀ (ls : List (List Nat)) (b : Int × List Nat), b.1 ≤ N → (∀ l, l ∈ ls → G l ≤ N) → (fO G pre ls b).1 ≤ N := by
  intro ls
  induction ls with
  | nil => intro b h _; exact h
  | cons l ls ih =>
    intro b h hl
    unfold fO
    refine ih _ ?_ (fun l' hl' => hl l' (List.mem_cons_of_mem _ hl'))
    split
    · exact hl l (List.mem_cons_self ..)
    · exact h
theorem fO_ge (G : List Nat → Int) (pre : List Nat) : ∀ (ls : List (List Nat)) (b : Int × List Nat), b.1 ≤ (fO G pre ls b).1 := by
  intro ls
  induction ls with
  | nil => intro b; exact Int.le_refl _
  | cons l ls ih =>
    intro b
    unfold fO
    refine Int.le_trans ?_ (ih _)
    split
    · show b.1 ≤ G l; omega
    · exact Int.le_refl _
theorem px_mem : ∀ (n : Nat) (s l : List Nat), l ∈ px n s → l.length = n ∧ (∀ x, x ∈ l → x ∈ s) ∧ (s.Nodup → l.Nodup) := by
  intro n
  induction n with
  | zero =>
    intro s l h
    unfold px at h
    rw [List.mem_singleton] at h
    subst h
    exact ⟨rfl, fun x hx => absurd hx (by simp), fun _ => List.nodup_nil⟩
  | succ n ih =>
    intro s l h
    unfold px at h
    rw [List.mem_flatMap] at h
    obtain ⟨x, hx, h⟩ := h
    rw [List.mem_map] at h
    obtain ⟨l', hl', rfl⟩ := h
    obtain ⟨i1, i2, i3⟩ := ih _ _ hl'
    refine ⟨by rw [List.length_cons, i1], fun y hy => ?_, fun hs => ?_⟩
    · rcases List.mem_cons.mp hy with rfl | hy
      · exact hx
      · exact List.mem_of_mem_erase (i2 y hy)
    · refine List.nodup_cons.mpr ⟨fun z => ?_, i3 (hs.erase x)⟩
      have := i2 x z
      exact (List.Nodup.mem_erase_iff hs).mp this |>.1 rfl
