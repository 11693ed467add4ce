/-! the class's search -/
def Lf (f : Nat → Bool) : List Nat := opb f 6 0
def fx (f : Nat → Bool) (x : Nat) : Nat → Bool := fun q => f q && decide (q ≠ x)
def ind (f : Nat → Bool) : Nat → Int := fun q => if f q = true then 1 else 0
theorem opb_mem (f : Nat → Bool) : ∀ (k p x : Nat), x ∈ opb f k p ↔ p ≤ x ∧ x < p + k ∧ f x = true := by
  intro k
  induction k with
  | zero => intro p x; unfold opb; exact ⟨fun h => absurd h (by simp), fun h => by omega⟩
  | succ k ih =>
    intro p x
    unfold opb
    by_cases c : f p = true
    · rw [if_pos c, List.mem_cons, ih]
      constructor
      · rintro (rfl | h)
        · exact ⟨by omega, by omega, c⟩
        · exact ⟨by omega, by omega, h.2.2⟩
      · intro h
        by_cases e : x = p
        · exact Or.inl e
        · exact Or.inr ⟨by omega, by omega, h.2.2⟩
    · rw [if_neg c, ih]
      constructor
      · intro h; exact ⟨by omega, by omega, h.2.2⟩
      · intro h
        have e : x ≠ p := fun e => by subst e; exact c h.2.2
        exact ⟨by omega, by omega, h.2.2⟩
theorem opb_nodup (f : Nat → Bool) : ∀ (k p : Nat), (opb f k p).Nodup := by
  intro k
  induction k with
  | zero => intro p; exact List.nodup_nil
  | succ k ih =>
    intro p
    unfold opb
    split
    · exact List.nodup_cons.mpr ⟨fun h => by have := ((opb_mem f k (p + 1) p).mp h).1; omega, ih _⟩
    · exact ih _
theorem erase_fin : ∀ b0 b1 b2 b3 b4 b5 : Bool, ∀ x, x < 6 → (opb (fun p => [b0, b1, b2, b3, b4, b5].getD p false) 6 0).erase x = opb (fun q => [b0, b1, b2, b3, b4, b5].getD q false && decide (q ≠ x)) 6 0 := by decide +kernel
theorem Lf_erase (f : Nat → Bool) {x : Nat} (hx : x < 6) : (Lf f).erase x = Lf (fx f x) := by
  have e1 : Lf f = opb (fun p => [f 0, f 1, f 2, f 3, f 4, f 5].getD p false) 6 0 := opb_cg _ _ 6 0 (fun j _ h => by
    rcases (by omega : j = 0 ∨ j = 1 ∨ j = 2 ∨ j = 3 ∨ j = 4 ∨ j = 5) with h | h | h | h | h | h <;> subst h <;> rfl)
  have e2 : Lf (fx f x) = opb (fun q => [f 0, f 1, f 2, f 3, f 4, f 5].getD q false && decide (q ≠ x)) 6 0 := opb_cg _ _ 6 0 (fun j _ h => by
    unfold fx
    rcases (by omega : j = 0 ∨ j = 1 ∨ j = 2 ∨ j = 3 ∨ j = 4 ∨ j = 5) with h | h | h | h | h | h <;> subst h <;> rfl)
  rw [e1, e2]
  exact erase_fin _ _ _ _ _ _ x hx
theorem bB_ind {b : Int} {K : Nat} {f : Nat → Bool} (hK : K ≤ 6) (hf : ∀ q, q < 6 → f q = true → q < K) (h : bB b 6 (ind f)) : bB b K (ind f) := by
  obtain ⟨n, h1, h2, h3⟩ := h
  refine ⟨n, h1, h2, fun p hp => (h3 p hp).trans ⟨fun z => ⟨hf p hp ?_, z.2⟩, fun z => ⟨hp, z.2⟩⟩⟩
  have := z.2
  unfold ind at this
  by_cases c : f p = true
  · exact c
  · rw [if_neg c] at this; omega
theorem ind_1 {f : Nat → Bool} {q : Nat} : ind f q = 1 ↔ f q = true := by
  unfold ind
  by_cases c : f q = true
  · rw [if_pos c]; exact ⟨fun _ => c, fun _ => rfl⟩
  · rw [if_neg c]; exact ⟨fun z => absurd z (by omega), fun z => absurd z c⟩
theorem ind_in (f : Nat → Bool) (q : Nat) : 0 ≤ ind f q ∧ ind f q ≤ 1 := by unfold ind; split <;> omega
def aft (s : xMi) (dp p K : Nat) : xMi := S_X0_passDay (if x_wr (V_X0_canSendNow (S_X0_copyFrom s (14 + dp) (13 + dp)) (14 + dp) p) = 0 then S_X0_copyFrom s (14 + dp) (13 + dp) else S_X0_dispatch (S_X0_copyFrom s (14 + dp) (13 + dp)) (14 + dp) p) (14 + dp) 0 K
def aub (s : xMi) (dp p K : Nat) (b : Int) : Int := V_X0_finalWeight (aft s dp p K) (14 + dp) (if x_wr (aft s dp p K 0 (14 + dp) 9) ≤ 0 then 0 else x_and b (x_xor (x_shl 1 (p : Int)) (-1))) K
theorem ext_step {dp m K k p : Nat} {b : Int} {G : Int → xMi → xMi} {s : xMi} : RS_X1_extend_52 dp b m K G (k + 1) p s = if x_wr (x_and (x_shr b (p : Int)) 1) = 0 then RS_X1_extend_52 dp b m K G k (p + 1) s else if x_wr (aub s dp p K b) ≤ x_wr (aft s dp p K 19 0 4) then RS_X1_extend_52 dp b m K G k (p + 1) (aft s dp p K) else RS_X1_extend_52 dp b m K G k (p + 1) (G (x_and b (x_xor (x_shl 1 (p : Int)) (-1))) (x_up (aft s dp p K) 21 0 dp (p : Int))) := by
  rw [RS_X1_extend_52]
  unfold aub aft
  by_cases c1 : x_wr (x_and (x_shr b (p : Int)) 1) = 0
  · rw [if_pos c1, if_pos c1]
  · rw [if_neg c1, if_neg c1]
    by_cases c2 : x_wr (V_X0_canSendNow (S_X0_copyFrom s (14 + dp) (13 + dp)) (14 + dp) p) = 0
    · simp only [if_pos c2]
      by_cases c3 : x_wr ((S_X0_passDay (S_X0_copyFrom s (14 + dp) (13 + dp)) (14 + dp) 0 K) 0 (14 + dp) 9) ≤ 0
      · simp only [if_pos c3]
      · simp only [if_neg c3]
    · simp only [if_neg c2]
      by_cases c3 : x_wr ((S_X0_passDay (S_X0_dispatch (S_X0_copyFrom s (14 + dp) (13 + dp)) (14 + dp) p) (14 + dp) 0 K) 0 (14 + dp) 9) ≤ 0
      · simp only [if_pos c3]
      · simp only [if_neg c3]
theorem aft_fr {s : xMi} {dp p K t i k : Nat} (h : ¬ (t ≤ 4 ∧ i = 14 + dp)) : aft s dp p K t i k = s t i k := by
  unfold aft
  rw [fr_S_X0_passDay _ _ _ _ h]
  split
  · exact fr_S_X0_copyFrom _ _ _ h
  · rw [fr_S_X0_dispatch _ _ _ h, fr_S_X0_copyFrom _ _ _ h]
section
variable {K : Nat} {F : aS} {dp p : Nat} {s : xMi} {a : aS} {D : Int}
theorem rof14 (dp : Nat) : x_rof (14 + dp) = 0 ∧ x_rof (13 + dp) = 0 := by
  unfold x_rof
  exact ⟨if_neg (by omega), if_neg (by omega)⟩
theorem aft_cF (hK : K ≤ 6) (hF : aF K F) (hD : D ≤ 100000) (hC : cF (13 + dp) s K a) (hR : cR 0 s K F) (hW : aW K D a) (hN : aN F K a) (hp : p < K) : cF (14 + dp) (aft s dp p K) K (aGo F K a p) ∧ cR 0 (aft s dp p K) K F := by
  have h1 : cF (14 + dp) (S_X0_copyFrom s (14 + dp) (13 + dp)) K a := cF_copyFrom hK (by omega) hC
  have r1 : cR (x_rof (14 + dp)) (S_X0_copyFrom s (14 + dp) (13 + dp)) K F := by rw [(rof14 dp).1]; exact hR.same (fun t h1 h2 j => fr_S_X0_copyFrom _ _ _ (by omega))
  have hM := aMay_W hF hW hN hp
  refine ⟨?_, hR.same (fun t h1 h2 j => aft_fr (by omega))⟩
  unfold aft aGo
  rw [c_canSendNow hK hD h1 hW hp]
  by_cases c : aMay a p
  · have c1 : ¬ x_wr (if aMay a p then 1 else 0) = 0 := fun z => i01.mp z c
    rw [if_neg c1]
    rw [if_pos c] at hM ⊢
    exact cF_passDay hK xw0 hD hF (cF_dispatch h1 r1 hF hp) (r1.same (fun t h1 h2 j => fr_S_X0_dispatch _ _ _ (by omega))) hM.1
  · have c1 : x_wr (if aMay a p then 1 else 0) = 0 := i01.mpr c
    rw [if_pos c1]
    rw [if_neg c] at hM ⊢
    exact cF_passDay hK xw0 hD hF h1 r1 hM.1
end
theorem uW_in {F : aS} {K : Nat} {a : aS} {S : Nat → Prop} (hF : aF K F) : 0 ≤ uW F K a S ∧ uW F K a S ≤ 9 * K := wS_in hF K 0 (by omega)
theorem Wt_in {F : aS} {K : Nat} {a : aS} (hF : aF K F) : 0 ≤ Wt F K a ∧ Wt F K a ≤ 9 * K := wS_in hF K 0 (by omega)
theorem aub_eq {K : Nat} {F : aS} {dp p : Nat} {s : xMi} {a : aS} {D b : Int} {f : Nat → Bool} (hK : K ≤ 6) (hF : aF K F) (hD : D + 1 ≤ 100000) (hC : cF (13 + dp) s K a) (hR : cR 0 s K F) (hW : aW K D a) (hN : aN F K a) (hp : p < K) (hf : ∀ q, q < 6 → f q = true → q < K) (hb : bB (x_and b (x_xor (x_shl 1 (p : Int)) (-1))) 6 (ind f)) : aub s dp p K b = uW F K (aGo F K a p) (fun q => f q = true) := by
  obtain ⟨h1, h2⟩ := aft_cF (dp := dp) hK hF (by omega) hC hR hW hN hp
  have hG := aGo_W hF hW hN hp
  have hs := hG.1.2.1
  unfold aub uW
  rw [h1.1.2.1, x_wrs (a := aGo F K a p 8 1) (by omega) (by omega)]
  by_cases c : aGo F K a p 8 1 ≤ 0
  · rw [if_pos c, f_cls (F := F) (g := fun _ => 0) hK hD hF h1 (by rw [(rof14 dp).1]; exact h2) hG.1 (bB.zero K (fun p _ => by omega)) (fun q _ => by omega)]
    refine wS_cong _ _ (fun q _ _ => ?_)
    rw [uI_1, uI_1]
    constructor
    · rintro (z | z)
      · exact Or.inl z
      · exact absurd z.1 (by omega)
    · rintro (z | z)
      · exact Or.inl z
      · have := z.1.2; omega
  · rw [if_neg c, f_cls (F := F) (g := ind f) hK hD hF h1 (by rw [(rof14 dp).1]; exact h2) hG.1 (bB_ind hK hf hb) (fun q _ => ind_in f q)]
    refine wS_cong _ _ (fun q _ _ => ?_)
    rw [uI_1, uI_1, ind_1]
    constructor
    · rintro (z | z)
      · exact Or.inl z
      · exact Or.inr ⟨⟨z.1, by omega⟩, z.2⟩
    · rintro (z | z)
      · exact Or.inl z
      · exact Or.inr ⟨z.1.1, z.2⟩
def Bc (t R : Nat) (s : xMi) (b : List Nat) : Prop := ∀ j, j < R → s t 0 j = ((b.getD j 0 : Nat) : Int)
theorem ind_clr {b : Int} {p : Nat} {f : Nat → Bool} (hp : p < 6) (h : bB b 6 (ind f)) : bB (x_and b (x_xor (x_shl 1 (p : Int)) (-1))) 6 (ind (fx f p)) := by
  refine h.clr (by omega) hp ?_ (fun q hq c => ?_)
  · rw [Ne, ind_1]; unfold fx; simp
  · rw [ind_1, ind_1]; unfold fx; simp [c]
theorem ind_bit {b : Int} {p : Nat} {f : Nat → Bool} (hp : p < 6) (h : bB b 6 (ind f)) : x_wr (x_and (x_shr b (p : Int)) 1) = 0 ↔ ¬ f p = true := by
  have := ind_in f p
  rw [h.get (by omega) hp this, x_wrs (by omega) (by omega), ← ind_1]
  omega
theorem ind_zero {b : Int} {f : Nat → Bool} (h : bB b 6 (ind f)) : x_wr b = 0 ↔ Lf f = [] := by
  obtain ⟨n, h1, rfl, h3⟩ := h
  rw [x_nat (by omega)]
  constructor
  · intro z
    have : n = 0 := by omega
    subst this
    rw [List.eq_nil_iff_forall_not_mem]
    intro x hx
    have hx' := (opb_mem f 6 0 x).mp hx
    have := (h3 x (by omega)).mpr ⟨by omega, ind_1.mpr hx'.2.2⟩
    simp at this
  · intro z
    have : n = 0 := by
      refine bt_eq h1 (by omega) (fun p hp => ?_)
      rw [Nat.zero_testBit, Bool.eq_false_iff]
      intro y
      have := ((h3 p hp).mp y).2
      have hm : p ∈ Lf f := (opb_mem f 6 0 p).mpr ⟨by omega, by omega, ind_1.mp this⟩
      rw [z] at hm
      exact absurd hm (by simp)
    omega
/-- what a search down from here finds is the best of all orders of the rest -/
theorem ext {K : Nat} {F : aS} (hK : K ≤ 6) (hF : aF K F) : ∀ (M dp : Nat) (f : Nat → Bool) (b : Int) (s : xMi) (a : aS) (pre best : List Nat), (Lf f).length ≤ M → dp + (Lf f).length ≤ 6 → pre.length = dp → (∀ q, q < 6 → f q = true → q < K) → bB b 6 (ind f) → cF (13 + dp) s K a → cR 0 s K F → aW K (999 + dp) a → aN F K a → (∀ j, j < dp → s 21 0 j = ((pre.getD j 0 : Nat) : Int)) → s 19 0 4 < uW F K a (fun q => f q = true) → -1 ≤ s 19 0 4 → (Bc 22 (dp + (Lf f).length) s best ∨ s 19 0 4 < 0) →
    SX K M dp b s 19 0 4 = (fO (fun l => Wt F K (aRun F K l a)) pre (px (Lf f).length (Lf f)) (s 19 0 4, best)).1 ∧ (Bc 22 (dp + (Lf f).length) (SX K M dp b s) (fO (fun l => Wt F K (aRun F K l a)) pre (px (Lf f).length (Lf f)) (s 19 0 4, best)).2 ∨ (fO (fun l => Wt F K (aRun F K l a)) pre (px (Lf f).length (Lf f)) (s 19 0 4, best)).1 < 0) ∧ ∀ j, j < dp → SX K M dp b s 21 0 j = s 21 0 j := by
  have leaf : ∀ (dp : Nat) (f : Nat → Bool) (b : Int) (s : xMi) (a : aS) (pre best : List Nat) (m : Nat) (G : Int → xMi → xMi), Lf f = [] → dp + (Lf f).length ≤ 6 → pre.length = dp → bB b 6 (ind f) → cF (13 + dp) s K a → cR 0 s K F → aW K (999 + dp) a → (∀ j, j < dp → s 21 0 j = ((pre.getD j 0 : Nat) : Int)) → s 19 0 4 < uW F K a (fun q => f q = true) → 
      S_X1_extend s dp b m K G 19 0 4 = (fO (fun l => Wt F K (aRun F K l a)) pre (px (Lf f).length (Lf f)) (s 19 0 4, best)).1 ∧ (Bc 22 (dp + (Lf f).length) (S_X1_extend s dp b m K G) (fO (fun l => Wt F K (aRun F K l a)) pre (px (Lf f).length (Lf f)) (s 19 0 4, best)).2 ∨ (fO (fun l => Wt F K (aRun F K l a)) pre (px (Lf f).length (Lf f)) (s 19 0 4, best)).1 < 0) ∧ ∀ j, j < dp → S_X1_extend s dp b m K G 21 0 j = s 21 0 j := by
    intro dp f b s a pre best m G hL hdp hpre hb hC hR hW h21 hmo
    have eu : uW F K a (fun q => f q = true) = Wt F K a := by
      unfold uW Wt
      refine wS_cong _ _ (fun q _ hq => ?_)
      rw [uI_1, esI_1]
      constructor
      · rintro (z | z)
        · exact z
        · have hm : q ∈ Lf f := (opb_mem f 6 0 q).mpr ⟨by omega, by omega, z.1.1⟩
          rw [hL] at hm; exact absurd hm (by simp)
      · exact Or.inl
    rw [eu] at hmo
    have eS : S_X1_extend s dp b m K G = x_cp (x_up s 19 0 4 (Wt F K a)) 22 0 21 0 6 := by
      unfold S_X1_extend
      rw [if_pos ((ind_zero hb).mpr hL), f_cls0 (F := F) hK (by omega) hF hC (by rw [(rof14 dp).2]; exact hR) hW]
      rfl
    have eO : fO (fun l => Wt F K (aRun F K l a)) pre (px (Lf f).length (Lf f)) (s 19 0 4, best) = (Wt F K a, pre ++ []) := by
      rw [hL]
      show fO _ pre [[]] _ = _
      unfold fO fO
      rw [if_pos (show (s 19 0 4, best).1 < Wt F K (aRun F K [] a) from hmo)]
      rfl
    rw [eS, eO, hL]
    refine ⟨by rw [x_cp_o (by omega), x_up_y rfl], Or.inl (fun j hj => ?_), fun j hj => by rw [x_cp_o (by omega), x_up_k (by omega)]⟩
    rw [List.length_nil] at hj
    rw [x_cp_y (by omega), x_up_k (by omega), List.append_nil]
    exact h21 j (by omega)
  intro M
  induction M with
  | zero =>
    intro dp f b s a pre best hM hdp hpre hf hb hC hR hW hN h21 hmo h1 hB
    have hL : Lf f = [] := List.eq_nil_of_length_eq_zero (by omega)
    exact leaf dp f b s a pre best 0 _ hL hdp hpre hb hC hR hW h21 hmo
  | succ M ih =>
    intro dp f b s a pre best hM hdp hpre hf hb hC hR hW hN h21 hmo h1 hB
    by_cases hL : Lf f = []
    · exact leaf dp f b s a pre best (M + 1) _ hL hdp hpre hb hC hR hW h21 hmo
    · have hlen : 0 < (Lf f).length := List.length_pos_iff.mpr hL
      obtain ⟨n, hn⟩ : ∃ n, (Lf f).length = n + 1 := ⟨(Lf f).length - 1, by omega⟩
      have eS : SX K (M + 1) dp b s = RS_X1_extend_52 dp b (M + 1) K (SX K M (dp + 1)) 6 0 s := by
        show S_X1_extend s dp b (M + 1) K (SX K M (dp + 1)) = _
        unfold S_X1_extend
        rw [if_neg (fun z => hL ((ind_zero hb).mp z)), if_pos (by rw [x_nat (by omega), xw6]; omega)]
      have loop : ∀ (k p : Nat) (s : xMi) (best : List Nat), p + k = 6 → cF (13 + dp) s K a → cR 0 s K F → (∀ j, j < dp → s 21 0 j = ((pre.getD j 0 : Nat) : Int)) → -1 ≤ s 19 0 4 → s 19 0 4 ≤ 9 * K → (Bc 22 (dp + (n + 1)) s best ∨ s 19 0 4 < 0) →
          RS_X1_extend_52 dp b (M + 1) K (SX K M (dp + 1)) k p s 19 0 4 = (fO (fun l => Wt F K (aRun F K l a)) pre ((opb f k p).flatMap (fun x => (px n ((Lf f).erase x)).map (x :: ·))) (s 19 0 4, best)).1 ∧ (Bc 22 (dp + (n + 1)) (RS_X1_extend_52 dp b (M + 1) K (SX K M (dp + 1)) k p s) (fO (fun l => Wt F K (aRun F K l a)) pre ((opb f k p).flatMap (fun x => (px n ((Lf f).erase x)).map (x :: ·))) (s 19 0 4, best)).2 ∨ (fO (fun l => Wt F K (aRun F K l a)) pre ((opb f k p).flatMap (fun x => (px n ((Lf f).erase x)).map (x :: ·))) (s 19 0 4, best)).1 < 0) ∧ ∀ j, j < dp → RS_X1_extend_52 dp b (M + 1) K (SX K M (dp + 1)) k p s 21 0 j = s 21 0 j := by
        intro k
        induction k with
        | zero => intro p s best _ _ _ _ _ _ hB; exact ⟨rfl, hB, fun _ _ => rfl⟩
        | succ k ihk =>
          intro p s best hp hC hR h21 h1 h54 hB
          rw [ext_step]
          by_cases c : f p = true
          · have c1 : ¬ x_wr (x_and (x_shr b (p : Int)) 1) = 0 := fun z => (ind_bit (by omega) hb).mp z c
            have hpK := hf p (by omega) c
            have hfx : ∀ q, q < 6 → fx f p q = true → q < K := fun q hq h => hf q hq (by unfold fx at h; simp at h; exact h.1)
            have hcl := ind_clr (p := p) (by omega) hb
            have hub := aub_eq (f := fx f p) (D := 999 + dp) hK hF (by omega) hC hR hW hN hpK hfx hcl
            obtain ⟨hA1, hA2⟩ := aft_cF (dp := dp) (D := 999 + dp) hK hF (by omega) hC hR hW hN hpK
            have hG := aGo_W hF hW hN hpK
            have hA19 : aft s dp p K 19 0 4 = s 19 0 4 := aft_fr (by omega)
            have hui := uW_in (K := K) (F := F) (a := aGo F K a p) (S := fun q => fx f p q = true) hF
            have hop : opb f (k + 1) p = p :: opb f k (p + 1) := by rw [opb, if_pos c]
            have hsA : cF (13 + dp) (aft s dp p K) K a := hC.same (fun t ht j => aft_fr (by omega))
            rw [if_neg c1, hub, hA19, x_wrs (a := uW F K (aGo F K a p) (fun q => fx f p q = true)) (by omega) (by omega), x_wrs (a := s 19 0 4) (by omega) (by omega), hop, List.flatMap_cons, fO_append, Lf_erase f (by omega)]
            have hlx : (Lf (fx f p)).length = n := by
              rw [← Lf_erase f (by omega), List.length_erase_of_mem (show p ∈ Lf f from (opb_mem f 6 0 p).mpr ⟨by omega, by omega, c⟩)]
              show (Lf f).length - 1 = n
              omega
            by_cases d : uW F K (aGo F K a p) (fun q => fx f p q = true) ≤ s 19 0 4
            · rw [if_pos d]
              have hsk : fO (fun l => Wt F K (aRun F K l a)) pre ((px n (Lf (fx f p))).map (p :: ·)) (s 19 0 4, best) = (s 19 0 4, best) := by
                rw [fO_map]
                refine fO_skip _ _ _ _ (fun l hl => ?_)
                have hm := px_mem _ _ _ hl
                exact Int.le_trans (run_le (S := fun q => fx f p q = true) hF l (999 + dp + 1) (aGo F K a p) hG.1 hG.2 (fun q hq => by
                  have h2 := (opb_mem (fx f p) 6 0 q).mp (hm.2.1 q hq)
                  exact ⟨hfx q (by omega) h2.2.2, h2.2.2⟩)) d
              rw [hsk]
              have ih' := ihk (p + 1) (aft s dp p K) best (by omega) hsA (hR.same (fun t h1 h2 j => aft_fr (by omega))) (fun j hj => by rw [aft_fr (by omega)]; exact h21 j hj) (by rw [hA19]; exact h1) (by rw [hA19]; exact h54) (by
                rw [hA19]
                rcases hB with hB | hB
                · exact Or.inl (fun j hj => by rw [aft_fr (by omega)]; exact hB j hj)
                · exact Or.inr hB)
              rw [hA19] at ih'
              exact ⟨ih'.1, ih'.2.1, fun j hj => by rw [ih'.2.2 j hj, aft_fr (by omega)]⟩
            · rw [if_neg d]
              have f1 : ∀ t i k', ¬ (t ≤ 4 ∧ i = 14 + dp) → ¬ (t = 21 ∧ i = 0 ∧ k' = dp) → x_up (aft s dp p K) 21 0 dp (p : Int) t i k' = s t i k' := fun t i k' h1 h2 => by rw [x_up_k h2, aft_fr h1]
              have h194 : x_up (aft s dp p K) 21 0 dp (p : Int) 19 0 4 = s 19 0 4 := f1 _ _ _ (by omega) (by omega)
              have hE := ih (dp + 1) (fx f p) (x_and b (x_xor (x_shl 1 (p : Int)) (-1))) (x_up (aft s dp p K) 21 0 dp (p : Int)) (aGo F K a p) (pre ++ [p]) best (by omega) (by omega) (by rw [List.length_append, hpre]; rfl) hfx hcl
                (by rw [(by omega : 13 + (dp + 1) = 14 + dp)]; exact hA1.same (fun t ht j => x_up_k (by omega))) (hA2.same (fun t h1 h2 j => x_up_k (by omega))) (aW_mono hG.1 (by omega)) hG.2 (fun j hj => by
                  by_cases e : j = dp
                  · rw [e, x_up_y rfl, List.getD_eq_getElem?_getD, List.getElem?_append_right (by omega), hpre, Nat.sub_self]; rfl
                  · rw [f1 _ _ _ (by omega) (by omega), List.getD_eq_getElem?_getD, List.getElem?_append_left (by omega), ← List.getD_eq_getElem?_getD]
                    exact h21 j (by omega)) (by rw [h194]; omega) (by rw [h194]; exact h1) (by
                  rw [h194, hlx, (by omega : dp + 1 + n = dp + (n + 1))]
                  rcases hB with hB | hB
                  · exact Or.inl (fun j hj => by rw [f1 _ _ _ (by omega) (by omega)]; exact hB j hj)
                  · exact Or.inr hB)
              rw [h194, hlx, (by omega : dp + 1 + n = dp + (n + 1))] at hE
              have frS : ∀ t i k', ¬ (t = 19 ∨ t = 21 ∨ t = 22 ∨ (t ≤ 4 ∧ 14 + dp ≤ i)) → SX K M (dp + 1) (x_and b (x_xor (x_shl 1 (p : Int)) (-1))) (x_up (aft s dp p K) 21 0 dp (p : Int)) t i k' = s t i k' := fun t i k' h => by rw [fr_SX K M (dp + 1) (by omega), f1 _ _ _ (by omega) (by omega)]
              have eM : fO (fun l => Wt F K (aRun F K l a)) pre ((px n (Lf (fx f p))).map (p :: ·)) (s 19 0 4, best) = fO (fun l => Wt F K (aRun F K l (aGo F K a p))) (pre ++ [p]) (px n (Lf (fx f p))) (s 19 0 4, best) := by
                rw [fO_map]; rfl
              rw [eM]
              generalize hX : fO (fun l => Wt F K (aRun F K l (aGo F K a p))) (pre ++ [p]) (px n (Lf (fx f p))) (s 19 0 4, best) = X at hE ⊢
              have hXl : X.1 ≤ 9 * K := by rw [← hX]; exact fO_le _ _ _ _ h54 (fun l _ => (Wt_in hF).2)
              have hXg : s 19 0 4 ≤ X.1 := by rw [← hX]; exact fO_ge _ _ _ (s 19 0 4, best)
              have ih' := ihk (p + 1) (SX K M (dp + 1) (x_and b (x_xor (x_shl 1 (p : Int)) (-1))) (x_up (aft s dp p K) 21 0 dp (p : Int))) X.2 (by omega) (hC.same (fun t ht j => frS _ _ _ (by omega))) (hR.same (fun t h1 h2 j => frS _ _ _ (by omega))) (fun j hj => by
                rw [hE.2.2 j (by omega), f1 _ _ _ (by omega) (by omega)]; exact h21 j hj) (by rw [hE.1]; omega) (by rw [hE.1]; exact hXl) (by rw [hE.1]; exact hE.2.1)
              rw [hE.1] at ih'
              exact ⟨ih'.1, ih'.2.1, fun j hj => by rw [ih'.2.2 j hj, hE.2.2 j (by omega), f1 _ _ _ (by omega) (by omega)]⟩
          · have c1 : x_wr (x_and (x_shr b (p : Int)) 1) = 0 := (ind_bit (by omega) hb).mpr c
            have hop : opb f (k + 1) p = opb f k (p + 1) := by rw [opb, if_neg c]
            rw [if_pos c1, hop]
            exact ihk (p + 1) s best (by omega) hC hR h21 h1 h54 hB
      have hui := uW_in (K := K) (F := F) (a := a) (S := fun q => f q = true) hF
      have hl := loop 6 0 s best (by omega) hC hR h21 h1 (by omega) (by rw [← hn]; exact hB)
      rw [eS, hn]
      exact hl
