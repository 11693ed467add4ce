/-! sending in an order -/
def aGo (F : aS) (K : Nat) (a : aS) (p : Nat) : aS := aP F 0 K (if aMay a p then aSend F a p else a)
def aRun (F : aS) (K : Nat) : List Nat → aS → aS
  | [], a => a
  | p :: l, a => aRun F K l (aGo F K a p)
noncomputable def Wt (F : aS) (K : Nat) (a : aS) : Int := wS F (esI F a) K 0
noncomputable def uW (F : aS) (K : Nat) (a : aS) (S : Nat → Prop) : Int := wS F (uI F a (fun q => S q ∧ 0 < a 8 1)) K 0
theorem aSendq {F a : aS} {p q j : Nat} (hj : j < 8) (hq : q ≠ p) : aSend F a p j q = a j q := by
  unfold aSend aOut
  rw [if_neg (by omega), if_neg (by omega), if_neg (fun z => hq z.2)]
theorem aSend_r {F a : aS} {p j : Nat} (hj : j < 8) : aSend F a p j p = rOut (F 1 p) (a 8 0) (fun i => a i p) j := by
  unfold aSend aOut
  rw [if_neg (by omega), if_neg (by omega), if_pos ⟨hj, rfl⟩]
theorem aSend_g {F a : aS} {p : Nat} : aSend F a p 8 0 = a 8 0 ∧ aSend F a p 8 1 = a 8 1 - 1 ∧ aSend F a p 8 2 = 1 := by
  unfold aSend aOut
  simp
theorem aMay_W {F : aS} {K p : Nat} {D : Int} {a : aS} (hF : aF K F) (hW : aW K D a) (hN : aN F K a) (hp : p < K) : aW K D (if aMay a p then aSend F a p else a) ∧ aN F K (if aMay a p then aSend F a p else a) := by
  split
  · rename_i c; exact ⟨aSend_W hF hW hp c, (aN_send hN).1⟩
  · exact ⟨hW, hN⟩
theorem aGo_W {F : aS} {K p : Nat} {D : Int} {a : aS} (hF : aF K F) (hW : aW K D a) (hN : aN F K a) (hp : p < K) : aW K (D + 1) (aGo F K a p) ∧ aN F K (aGo F K a p) := by
  have h := aMay_W hF hW hN hp
  exact ⟨aP_W h.1, aN_P h.1⟩
theorem aGo_g {F : aS} {K p : Nat} {a : aS} (h : 0 ≤ a 8 1) : aGo F K a p 8 0 = a 8 0 + 1 ∧ aGo F K a p 8 2 = 0 ∧ aGo F K a p 8 1 ≤ a 8 1 := by
  unfold aGo
  have hg := aP_g F 0 K (if aMay a p then aSend F a p else a)
  by_cases c : aMay a p
  · rw [if_pos c] at hg ⊢
    have hs := aSend_g (F := F) (a := a) (p := p)
    have h1 := aL1_st (F := F) (b := 0) K 0 (aSend F a p) (by rw [hs.2.1]; have := c.2.2.1; omega)
    exact ⟨by rw [hg.1, hs.1], hg.2.1, by rw [hg.2.2]; have := hs.2.1; omega⟩
  · rw [if_neg c] at hg ⊢
    have h1 := aL1_st (F := F) (b := 0) K 0 a h
    exact ⟨hg.1, hg.2.1, by rw [hg.2.2]; exact h1.2⟩
/-- one that is open, sent one: it ends soft just if there is a day to spare -/
theorem es_send {F : aS} {K p : Nat} {D : Int} {a : aS} (hF : aF K F) (hW : aW K D a) (hp : p < K) (c : aOpen a p) : aES F (aSend F a p) p ↔ 0 ≤ aSp F a p := by
  have hr := hW.row hp
  have hf := hF p hp
  have r0 : aSend F a p 0 p = 1 := by rw [aSend_r (by omega)]; simp [rOut]
  have r1 : aSend F a p 1 p = a 8 0 + F 1 p / 10 + 1 := by rw [aSend_r (by omega)]; simp [rOut]
  have r3 : aSend F a p 3 p = -4 := by rw [aSend_r (by omega)]; simp [rOut]; exact c.2
  have r5 : aSend F a p 5 p = 0 := by rw [aSend_r (by omega)]; simp [rOut]; have := c.1; omega
  have r6 : aSend F a p 6 p = a 6 p := by rw [aSend_r (by omega)]; simp [rOut]
  have r8 : aSend F a p 8 0 = a 8 0 := aSend_g.1
  unfold aES rES rRf aSp
  by_cases hc : F 0 p = 3 ∧ a 6 p = 0
  · have hc' : F 0 p = 3 ∧ (fun i => aSend F a p i p) 6 = 0 := ⟨hc.1, by show aSend F a p 6 p = 0; rw [r6]; exact hc.2⟩
    rw [if_pos hc', if_pos hc]
    dsimp only
    rw [r0, r1, r3, r5, r8]
    constructor
    · rintro (z | ⟨-, z | z⟩)
      · exact absurd rfl z.1
      · omega
      · omega
    · intro z
      exact Or.inr ⟨rfl, Or.inr ⟨by omega, by omega, by omega⟩⟩
  · have hc' : ¬ (F 0 p = 3 ∧ (fun i => aSend F a p i p) 6 = 0) := fun y => hc ⟨y.1, by have := y.2; dsimp only at this; rw [r6] at this; exact this⟩
    rw [if_neg hc', if_neg hc]
    dsimp only
    rw [r0, r1, r3, r5, r8]
    constructor
    · rintro (z | ⟨-, z | z⟩)
      · exact absurd rfl z.1
      · omega
      · omega
    · intro z
      exact Or.inr ⟨rfl, Or.inr ⟨by omega, by omega, by omega⟩⟩
theorem es_other {F a : aS} {p q : Nat} (hq : q ≠ p) : aES F (aSend F a p) q ↔ aES F a q := by
  unfold aES
  rw [aSend_g.1]
  exact rES_cong (fun j hj => aSendq hj hq)
theorem es_open {F a : aS} {K p : Nat} {D : Int} (hW : aW K D a) (hp : p < K) (c : aOpen a p) : ¬ aES F a p := by
  have hr := hW.row hp
  have h7 := c.1
  have h3 := c.2
  unfold aES rES
  dsimp only
  intro z
  rcases z with z | ⟨-, z | z⟩
  · exact z.1 h3
  · omega
  · omega
theorem sp_step {F : aS} {K q : Nat} {a : aS} (hq : q < K) (h6 : 0 ≤ a 6 q ∧ a 6 q ≤ 1) : aSp F (aP F 0 K a) q ≤ aSp F a q := by
  unfold aSp
  rw [(aP_g F 0 K a).1]
  (repeat' split) <;> omega
/-- no order brings more than what could at best come of it -/
theorem run_le {F : aS} {K : Nat} {S : Nat → Prop} (hF : aF K F) : ∀ (l : List Nat) (D : Int) (a : aS), aW K D a → aN F K a → (∀ q, q ∈ l → q < K ∧ S q) → Wt F K (aRun F K l a) ≤ uW F K a S := by
  intro l
  induction l with
  | nil =>
    intro D a hW hN _
    exact wS_mono hF K 0 (by omega) (fun q _ _ h => uI_1.mpr (Or.inl (esI_1.mp h)))
  | cons p l ih =>
    intro D a hW hN h
    have hp := h p (List.mem_cons_self ..)
    have hG := aGo_W hF hW hN hp.1
    have hM := aMay_W hF hW hN hp.1
    have hg := aGo_g (F := F) (K := K) (p := p) hW.2.1.1
    refine Int.le_trans (ih (D + 1) (aGo F K a p) hG.1 hG.2 (fun q hq => h q (List.mem_cons_of_mem _ hq))) ?_
    refine wS_mono hF K 0 (by omega) (fun q _ hq hu => uI_1.mpr ?_)
    have hqK : q < K := by omega
    have hrow := hW.row hqK
    rcases uI_1.mp hu with z | ⟨⟨z1, z2⟩, z3⟩
    · have z' := (aES_P hM.1 hM.2 hqK).mp z
      by_cases c : aMay a p
      · rw [if_pos c] at z'
        by_cases e : q = p
        · subst e
          exact Or.inr ⟨⟨hp.2, c.2.2.1⟩, (es_send hF hW hqK ⟨c.1, c.2.1⟩).mp z'⟩
        · exact Or.inl ((es_other e).mp z')
      · rw [if_neg c] at z'
        exact Or.inl z'
    · refine Or.inr ⟨⟨z1, by omega⟩, ?_⟩
      unfold aGo at z3
      by_cases c : aMay a p
      · rw [if_pos c] at z3
        have h6 : aSend F a p 6 q = a 6 q := by
          by_cases e : q = p
          · subst e; rw [aSend_r (by omega)]; simp [rOut]
          · exact aSendq (by omega) e
        have h1 := sp_step (F := F) (a := aSend F a p) hqK (by rw [h6]; omega)
        have h2 : aSp F (aSend F a p) q = aSp F a q := by unfold aSp; rw [aSend_g.1]; simp only [h6]
        omega
      · rw [if_neg c] at z3
        have h1 := sp_step (F := F) (a := a) hqK (by omega)
        omega
/-! more stock, no less softly -/
def cn0 (a : aS) : Nat → Nat → Int
  | 0, _ => 0
  | k + 1, p => (if a 6 p = 0 then 1 else 0) + cn0 a k (p + 1)
theorem cn0_cong {a a' : aS} : ∀ (k p : Nat), (∀ q, p ≤ q → q < p + k → a' 6 q = a 6 q) → cn0 a' k p = cn0 a k p := by
  intro k
  induction k with
  | zero => intro p _; rfl
  | succ k ih =>
    intro p h
    unfold cn0
    rw [h p (by omega) (by omega), ih (p + 1) (fun q h1 h2 => h q (by omega) (by omega))]
theorem cn0_le (a : aS) : ∀ (k p : Nat), 0 ≤ cn0 a k p ∧ cn0 a k p ≤ k := by
  intro k
  induction k with
  | zero => intro p; exact ⟨Int.le_refl _, Int.le_refl _⟩
  | succ k ih =>
    intro p
    unfold cn0
    have := ih (p + 1)
    split <;> omega
theorem cn0_set {a a' : aS} {p0 : Nat} (h0 : a 6 p0 = 0) (h1 : a' 6 p0 ≠ 0) (hq : ∀ q, q ≠ p0 → a' 6 q = a 6 q) : ∀ (k p : Nat), cn0 a' k p = cn0 a k p - (if p ≤ p0 ∧ p0 < p + k then 1 else 0) := by
  intro k
  induction k with
  | zero => intro p; rw [if_neg (by omega)]; rfl
  | succ k ih =>
    intro p
    have e : ∀ a : aS, cn0 a (k + 1) p = (if a 6 p = 0 then 1 else 0) + cn0 a k (p + 1) := fun _ => rfl
    rw [e, e, ih (p + 1)]
    by_cases c : p = p0
    · subst c
      rw [if_pos h0, if_neg h1, if_neg (by omega), if_pos (by omega)]
      omega
    · rw [hq p c]
      by_cases d : p ≤ p0 ∧ p0 < p + (k + 1)
      · have d' : p + 1 ≤ p0 ∧ p0 < p + 1 + k := by omega
        rw [if_pos d, if_pos d']; omega
      · have d' : ¬ (p + 1 ≤ p0 ∧ p0 < p + 1 + k) := by omega
        rw [if_neg d, if_neg d']; omega
theorem cn0_L1 {F : aS} {K : Nat} : ∀ (k p : Nat) (a : aS), p + k ≤ K → 0 ≤ a 8 1 → a 8 1 - cn0 a K 0 ≤ aL1 F 0 k p a 8 1 - cn0 (aL1 F 0 k p a) K 0 := by
  intro k
  induction k with
  | zero => intro p a _ _; exact Int.le_refl _
  | succ k ih =>
    intro p a hp hs
    unfold aL1
    split
    · refine Int.le_trans ?_ (ih (p + 1) (aCome F a p) (by omega) (aCome_st hs).1)
      by_cases c : F 0 p = 3 ∧ a 6 p = 0
      · have h6 : ∀ q, q ≠ p → aCome F a p 6 q = a 6 q := fun q hq => by rw [aCome_row F a p q (by omega), if_neg hq]
        have h6p : aCome F a p 6 p ≠ 0 := by rw [aCome_row F a p p (by omega), if_pos rfl]; unfold rCome; rw [if_pos c]; simp
        rw [cn0_set c.2 h6p h6 K 0, if_pos (by omega)]
        have h1 : a 8 1 - 1 ≤ aCome F a p 8 1 := by unfold aCome; rw [if_neg (by omega), if_pos c]; simp; split <;> omega
        omega
      · have h6 : ∀ q, aCome F a p 6 q = a 6 q := fun q => by
          rw [aCome_row F a p q (by omega)]
          split
          · rename_i e; subst e; unfold rCome; rw [if_neg c]; simp
          · rfl
        rw [cn0_cong K 0 (fun q _ _ => h6 q)]
        have h1 : aCome F a p 8 1 = a 8 1 := by unfold aCome; rw [if_neg (by omega), if_neg c]
        omega
    · exact ih (p + 1) a (by omega) hs
theorem cn0_P {F : aS} {K : Nat} {a : aS} (hs : 0 ≤ a 8 1) : a 8 1 - cn0 a K 0 ≤ aP F 0 K a 8 1 - cn0 (aP F 0 K a) K 0 := by
  have h := cn0_L1 (F := F) (K := K) K 0 a (by omega) hs
  have e : cn0 (aP F 0 K a) K 0 = cn0 (aL1 F 0 K 0 a) K 0 := cn0_cong K 0 (fun q _ hq => by
    unfold aP aEnd
    rw [if_neg (by omega), if_neg (by omega)]
    unfold aTl
    rw [if_pos ⟨by omega, by omega, hq⟩]
    unfold rTell
    simp)
  rw [e, (aP_g F 0 K a).2.2]
  exact h
theorem none_P {F : aS} {K q : Nat} {D : Int} {a : aS} (hW : aW K D a) (hq : q < K) (h7 : a 7 q = 0) : aP F 0 K a 7 q = 0 ∧ aP F 0 K a 6 q = a 6 q ∧ aP F 0 K a 3 q = if F 2 q ≤ a 8 0 ∧ a 3 q = -4 then a 8 0 else a 3 q := by
  obtain ⟨st, hr⟩ := aP_row (F := F) (b := 0) hq a
  have hrow := hW.row hq
  have e : rIn (F 0 q) (a 8 0) 0 st (fun i => a i q) = fun i => a i q := by
    unfold rIn; rw [if_neg]; intro z; have := z.2.1; simp at this; omega
  rw [hr 7 (by omega), hr 6 (by omega), hr 3 (by omega), e]
  unfold rTell
  simp [h7]
  by_cases c : F 2 q ≤ a 8 0 ∧ a 3 q = -4
  · rw [if_pos ⟨c.1, c.2, by omega⟩, if_pos c]
  · rw [if_neg (fun z => c ⟨z.1, z.2.1⟩), if_neg c]
theorem run_mono {F : aS} {K : Nat} (hF : aF K F) : ∀ (l : List Nat) (D : Int) (a b : aS), aW K D a → aN F K a → aW K D b → aN F K b → l.Nodup → (∀ q, q ∈ l → q < K) → a 8 0 = b 8 0 → a 8 2 = b 8 2 → (∀ q, q < K → aES F a q → aES F b q) → (∀ q, q ∈ l → a 7 q = 0 ∧ b 7 q = 0 ∧ a 3 q = b 3 q ∧ a 6 q = b 6 q) → (l.length : Int) + cn0 b K 0 ≤ b 8 1 → Wt F K (aRun F K l a) ≤ Wt F K (aRun F K l b) := by
  intro l
  induction l with
  | nil =>
    intro D a b _ _ _ _ _ _ _ _ hE _ _
    exact wS_mono hF K 0 (by omega) (fun q _ hq h => esI_1.mpr (hE q (by omega) (esI_1.mp h)))
  | cons p l ih =>
    intro D a b hWa hNa hWb hNb hnd hlK h80 h82 hE hl hst
    have hp := hlK p (List.mem_cons_self ..)
    obtain ⟨p7a, p7b, p3, p6⟩ := hl p (List.mem_cons_self ..)
    have hnp : p ∉ l := (List.nodup_cons.mp hnd).1
    have hMa := aMay_W hF hWa hNa hp
    have hMb := aMay_W hF hWb hNb hp
    have hGa := aGo_W hF hWa hNa hp
    have hGb := aGo_W hF hWb hNb hp
    have hcn := cn0_le b K 0
    have hl1 : ((p :: l).length : Int) = (l.length : Int) + 1 := by rw [List.length_cons]; omega
    rw [hl1] at hst
    have row : ∀ (c : aS) (q j : Nat), q ≠ p → j < 8 → (if aMay c p then aSend F c p else c) j q = c j q := fun c q j hq hj => by
      split
      · exact aSendq hj hq
      · rfl
    have d0 : ∀ (c : aS), (if aMay c p then aSend F c p else c) 8 0 = c 8 0 := fun c => by
      split
      · exact aSend_g.1
      · rfl
    have hga := aGo_g (F := F) (K := K) (p := p) hWa.2.1.1
    have hgb := aGo_g (F := F) (K := K) (p := p) hWb.2.1.1
    refine ih (D + 1) (aGo F K a p) (aGo F K b p) hGa.1 hGa.2 hGb.1 hGb.2 (List.nodup_cons.mp hnd).2 (fun q hq => hlK q (List.mem_cons_of_mem _ hq)) (by rw [hga.1, hgb.1, h80]) (by rw [hga.2.1, hgb.2.1]) (fun q hq h => ?_) (fun q hq => ?_) ?_
    · have h1 := (aES_P hMa.1 hMa.2 hq).mp h
      refine (aES_P hMb.1 hMb.2 hq).mpr ?_
      by_cases e : q = p
      · subst e
        by_cases ca : aMay a q
        · have cb : aMay b q := ⟨p7b, by rw [← p3]; exact ca.2.1, by omega, by rw [← h82]; exact ca.2.2.2⟩
          rw [if_pos ca] at h1
          rw [if_pos cb]
          have h2 := (es_send hF hWa hq ⟨ca.1, ca.2.1⟩).mp h1
          refine (es_send hF hWb hq ⟨cb.1, cb.2.1⟩).mpr ?_
          have e2 : aSp F b q = aSp F a q := by unfold aSp; rw [h80]; simp only [p6]
          omega
        · rw [if_neg ca] at h1
          have h2 := hE q hq h1
          by_cases cb : aMay b q
          · exact absurd h2 (es_open hWb hq ⟨cb.1, cb.2.1⟩)
          · rw [if_neg cb]; exact h2
      · have ra : aES F (if aMay a p then aSend F a p else a) q ↔ aES F a q := by
          split
          · exact es_other e
          · exact Iff.rfl
        have rb : aES F (if aMay b p then aSend F b p else b) q ↔ aES F b q := by
          split
          · exact es_other e
          · exact Iff.rfl
        exact rb.mpr (hE q hq (ra.mp h1))
    · have e : q ≠ p := fun z => hnp (z ▸ hq)
      have hqK := hlK q (List.mem_cons_of_mem _ hq)
      obtain ⟨q7a, q7b, q3, q6⟩ := hl q (List.mem_cons_of_mem _ hq)
      have na := none_P (F := F) hMa.1 hqK (by rw [row a q 7 e (by omega)]; exact q7a)
      have nb := none_P (F := F) hMb.1 hqK (by rw [row b q 7 e (by omega)]; exact q7b)
      rw [row a q 6 e (by omega), row a q 3 e (by omega), d0 a] at na
      rw [row b q 6 e (by omega), row b q 3 e (by omega), d0 b] at nb
      refine ⟨na.1, nb.1, ?_, ?_⟩
      · show aP F 0 K _ 3 q = aP F 0 K _ 3 q
        rw [na.2.2, nb.2.2, h80, q3]
      · show aP F 0 K _ 6 q = aP F 0 K _ 6 q
        rw [na.2.1, nb.2.1, q6]
    · unfold aGo
      have hs0 : 0 ≤ (if aMay b p then aSend F b p else b) 8 1 := hMb.1.2.1.1
      have h1 := cn0_P (F := F) (K := K) hs0
      have h2 : cn0 (if aMay b p then aSend F b p else b) K 0 = cn0 b K 0 := cn0_cong K 0 (fun q _ _ => by
        by_cases e : q = p
        · subst e
          split
          · rw [aSend_r (by omega)]; simp [rOut]
          · rfl
        · exact row b q 6 e (by omega))
      have h3 : b 8 1 - 1 ≤ (if aMay b p then aSend F b p else b) 8 1 := by
        split
        · rw [aSend_g.2.1]; omega
        · omega
      omega
