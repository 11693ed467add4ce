theorem pK.c {K : Nat} {s s' m m' : xMi} (h : pK K s m) (hs : ∀ t k, 5 ≤ t → t ≤ 9 → s' t 0 k = s t 0 k) (h0 : m' 24 0 0 = m 24 0 0) (hF : rF m' = rF m) : pK K s' m' := by
  obtain ⟨k1, k2, k3, k4, k5, k6⟩ := h
  exact ⟨k1, k2, by rw [hs 5 4 (by omega) (by omega)]; exact k3, by rw [h0]; exact k4, by rw [hF]; exact k5.same (fun t h1 h2 k => hs t k (by omega) (by omega)), by rw [hF]; exact k6⟩
theorem pL.c {j L b T c K n τ : Nat} {s s' m m' : xMi} (h : pL j L b T c K n τ s m) (hb : 3 ≤ b ∧ b + L ≤ 13) (h13 : ∀ k, s' 13 j k = s 13 j k) (hs : ∀ t i k, t ≤ 4 → 3 ≤ i → i < 13 → s' t i k = s t i k) (hF : rF m' = rF m) (hc : m' 24 0 c = m 24 0 c) (hT : ∀ k, m' T 0 k = m T 0 k) : pL j L b T c K n τ s' m' := by
  obtain ⟨h1, h2, h3, h4, h5, h6⟩ := h
  refine ⟨h1, h2, by rw [h13]; exact h3, by rw [h13]; exact h4, by rw [hc]; exact h5, fun i hi => ?_⟩
  have hl := Nat.mod_lt (τ + L - i) (by omega : L > 0)
  rw [sA_cong (fun k _ _ => hT k)]
  exact (h6 i hi).s (fun t ht k => hs t _ k ht (by omega) (by omega)) hF
theorem pZ.c {K z : Nat} {s s' m m' : xMi} (h : pZ K z s m) (hs : ∀ t k, 15 ≤ t → t ≤ 18 → s' t 0 k = s t 0 k) (h0 : m' 24 0 17 = m 24 0 17) (hm : ∀ t k, 37 ≤ t → t ≤ 39 → m' t 0 k = m t 0 k) : pZ K z s' m' := by
  obtain ⟨z1, z2, z3, z4, z5, z6, z7⟩ := h
  refine ⟨z1, by rw [hs 15 3 (by omega) (by omega)]; exact z2, by rw [h0]; exact z3, fun k hk => ?_, fun k => ?_, fun k => ?_, fun k => ?_⟩
  · rw [hs 16 k (by omega) (by omega), hs 17 k (by omega) (by omega), hs 18 k (by omega) (by omega), hm 37 k (by omega) (by omega), hm 38 k (by omega) (by omega), hm 39 k (by omega) (by omega)]; exact z4 k hk
  · rw [hs 16 k (by omega) (by omega)]; exact z5 k
  · rw [hs 17 k (by omega) (by omega)]; exact z6 k
  · rw [hm 38 k (by omega) (by omega)]; exact z7 k
theorem pT.c {w : Nat} {s s' m m' : xMi} (h : pT w s m) (hs : ∀ t k, t = 10 ∨ t = 11 → s' t 0 k = s t 0 k) (h0 : m' 24 0 22 = m 24 0 22) (hm : ∀ k, m' 40 0 k = m 40 0 k) : pT w s' m' := by
  obtain ⟨t1, t2, t3, t4, t5⟩ := h
  refine ⟨t1, by rw [hs 10 2 (by omega)]; exact t2, by rw [h0]; exact t3, fun k hk => ?_, fun k => ?_⟩
  · rw [hs 11 k (by omega), hm]; exact t4 k hk
  · rw [hs 11 k (by omega)]; exact t5 k
theorem pO.c {m m' : xMi} (h : pO m) (hm : ∀ k, m' 44 0 k = m 44 0 k) : pO m' := fun j => by rw [hm]; exact h j
def RR (σ : xMi) : Prop := ∃ K u τ v τ1 z w, Rl K u τ v τ1 z w σ σ
theorem v_isPerson {K : Nat} {σ : xMi} {p1 : Int} (hw : x_wr p1 = p1) (hK : K ≤ 6) (h : σ 5 0 4 = (K : Int)) : V_X6_isPerson σ p1 = if 0 ≤ p1 ∧ p1 < K then 1 else 0 := by
  unfold V_X6_isPerson
  rw [hw, h, x_wrs (a := (K : Int)) (by omega) (by omega)]
  (repeat' split) <;> omega
theorem v_in {σ : xMi} {v a b : Int} (hv : x_wr v = v) (ha : -100000 ≤ a ∧ a ≤ 100000) (hb : -100000 ≤ b ∧ b ≤ 100000) : V_X7_in σ v a b = if a ≤ v ∧ v ≤ b then 1 else 0 := by
  unfold V_X7_in
  rw [hv, x_wrs (a := a) (by omega) (by omega), x_wrs (a := b) (by omega) (by omega)]
  (repeat' split) <;> omega
theorem v_isOne {K : Nat} {σ : xMi} {p1 : Int} (hw : x_wr p1 = p1) (hK : K ≤ 6) (h : σ 24 0 0 = (K : Int)) : V_X7_isOne σ p1 = if 0 ≤ p1 ∧ p1 < K then 1 else 0 := by
  unfold V_X7_isOne
  rw [v_in hw (by omega) (by omega), h]
  (repeat' split) <;> omega
theorem i01 {P : Prop} [Decidable P] : (x_wr (if P then 1 else 0) = 0) ↔ ¬ P := by
  by_cases h : P
  · rw [if_pos h, xw1]; exact ⟨fun z => by omega, fun z => absurd h z⟩
  · rw [if_neg h, xw0]; exact ⟨fun _ => h, fun _ => rfl⟩
/-- an act on the fund itself, noted on both sides -/
theorem Rl.act {K u τ v τ1 z w : Nat} {σ s3 m3 : xMi} (h : Rl K u τ v τ1 z w σ σ) (hM : eM σ s3) (hs : ∀ t i k, t < 24 → ¬ (t ≤ 4 ∧ i = 0) → s3 t i k = S_X2_push σ 0 0 τ t i k) (hm : sM (S_X7_notes s3 u) m3) (he : eC s3 m3) (hg : gS K s3 m3 0 (rA m3)) : RR m3 := by
  have h' := h.begun hM
  obtain ⟨hk, hg0, hU, hV, hZ, hT, hO⟩ := h'
  have hN := nt_all (m := s3) hU.1 hU.2.2.2.2.1
  have hτ := hU.2.1
  have hτe := hU.2.2.2.1
  have hU' := hU.push (m' := S_X7_notes s3 u) (Or.inl ⟨rfl, rfl, rfl⟩) hk.2.1 hg0 hN.2.1 hN.2.2.1 hN.2.2.2.1 hN.2.2.2.2
  have pf : ∀ t i k, ¬ ((t = 13 ∧ i = 0) ∨ (t ≤ 4 ∧ 3 ≤ i ∧ i < 11)) → S_X2_push σ 0 0 τ t i k = σ t i k := by
    intro t i k hne
    have hml := Nat.mod_lt (τ + 1) (by omega : 8 > 0)
    rw [push_eq (L := 8) rfl (by omega) hτ hτe, x_up_k (by omega), fr_S_X0_copyFrom _ _ _ (by simp [x_pf]; omega), x_up_k (by omega)]
  have fN : ∀ t k, ¬ ((t = 24 ∧ k = 29) ∨ t = 42) → S_X7_notes s3 u t 0 k = s3 t 0 k := fun t k hne => fr_S_X7_notes s3 u hne
  have fM : ∀ t k, ¬ ((t = 24 ∧ k = 29) ∨ t = 42) → ¬ ((t = 24 ∧ 5 ≤ k ∧ k ≤ 8) ∨ (29 ≤ t ∧ t ≤ 36)) → m3 t 0 k = s3 t 0 k := fun t k h1 h2 => (hm t k h2).trans (fN t k h1)
  have hF : rF m3 = rF s3 := hm.F.trans hN.2.1
  have hR : Rl K (if u = 8 then 8 else u + 1) ((τ + 1) % 8) v τ1 z w s3 m3 := by
    refine ⟨hk.c (fun t k h1 h2 => ?_) (fM _ _ (by omega) (by omega)) hF, hg, ?_, ?_, hZ.c (fun t k h1 h2 => ?_) (fM _ _ (by omega) (by omega)) (fun t k h1 h2 => fM _ _ (by omega) (by omega)), hT.c (fun t k h1 => ?_) (fM _ _ (by omega) (by omega)) (fun k => fM _ _ (by omega) (by omega)), hO.c (fun k => fM _ _ (by omega) (by omega))⟩
    · rw [hs _ _ _ (by omega) (by omega), pf _ _ _ (by omega)]
    · refine hU'.c (by omega) (fun k => hs _ _ _ (by omega) (by omega)) (fun t i k h1 h2 h3 => hs _ _ _ (by omega) (by omega)) hm.F (hm _ _ (by omega)) (fun k => hm _ _ (by omega))
    · refine pL.c (b := 11) (m := s3) (s := S_X2_push σ 0 0 τ) ?_ (by omega) (fun k => hs _ _ _ (by omega) (by omega)) (fun t i k h1 h2 h3 => hs _ _ _ (by omega) (by omega)) hF (fM _ _ (by omega) (by omega)) (fun k => fM _ _ (by omega) (by omega))
      obtain ⟨q1, q2, q3, q4, q5, q6⟩ := hV
      refine ⟨q1, q2, by rw [pf _ _ _ (by omega)]; exact q3, by rw [pf _ _ _ (by omega)]; exact q4, q5, fun i hi => (q6 i hi).s (fun t ht k => pf _ _ _ (by omega)) rfl⟩
    · rw [hs _ _ _ (by omega) (by omega), pf _ _ _ (by omega)]
    · rw [hs _ _ _ (by omega) (by omega), pf _ _ _ (by omega)]
  exact ⟨_, _, _, _, _, _, _, hR.done he⟩
theorem push_M {σ : xMi} {j τ : Nat} : eM σ (S_X2_push σ j 0 τ) := by
  intro t i k ht
  unfold S_X2_push
  split <;> rw [x_up_k (by omega), fr_S_X0_copyFrom _ _ _ (by omega), x_up_k (by omega)]
/-- the fund as it stands, behind a push -/
theorem push_now {K u τ v τ1 z w : Nat} {σ : xMi} (h : Rl K u τ v τ1 z w σ σ) : cF 0 (S_X2_push σ 0 0 τ) K (rA σ) ∧ cR 0 (S_X2_push σ 0 0 τ) K (rF σ) := by
  obtain ⟨hk, hg0, hU, -, -, -, -⟩ := h
  have hτ := hU.2.1
  have hτe := hU.2.2.2.1
  have pf : ∀ t i k, ¬ ((t = 13 ∧ i = 0) ∨ (t ≤ 4 ∧ 3 ≤ i ∧ i < 11)) → S_X2_push σ 0 0 τ t i k = σ t i k := by
    intro t i k hne
    have hml := Nat.mod_lt (τ + 1) (by omega : 8 > 0)
    rw [push_eq (L := 8) rfl (by omega) hτ hτe, x_up_k (by omega), fr_S_X0_copyFrom _ _ _ (by simp [x_pf]; omega), x_up_k (by omega)]
  exact ⟨hg0.1.same (fun t ht k => pf _ _ _ (by omega)), hk.2.2.2.2.1.same (fun t h1 h2 k => pf _ _ _ (by omega))⟩
theorem notes_A {σ s3 : xMi} {K u τ v τ1 z w : Nat} (h : Rl K u τ v τ1 z w σ σ) (hM : eM σ s3) : rA (S_X7_notes s3 u) = rA σ ∧ rF (S_X7_notes s3 u) = rF σ ∧ rA s3 = rA σ ∧ rF s3 = rF σ := by
  have h' := h.begun hM
  have hN := nt_all (m := s3) h'.2.2.1.1 h'.2.2.1.2.2.2.2.1
  exact ⟨hN.1.trans hM.R.1, hN.2.1.trans hM.R.2.1, hM.R.1, hM.R.2.1⟩
theorem m_send {K u τ v τ1 z w : Nat} {σ : xMi} (h : Rl K u τ v τ1 z w σ σ) {p1 : Int} (hw : x_wr p1 = p1) : V_X6_send σ p1 K τ = V_X7_send (S_X6_send σ p1 K τ) p1 K u ∧ RR (S_X7_send (S_X6_send σ p1 K τ) p1 K u) := by
  obtain ⟨hk, hg0, -⟩ := id h
  have hK := hk.2.1
  have e1 := v_isPerson (σ := σ) hw hK hk.2.2.1
  unfold V_X6_send S_X6_send
  by_cases c : 0 ≤ p1 ∧ p1 < K
  · have hp : p1.toNat < K := by omega
    have n1 : ¬ x_wr (V_X6_isPerson σ p1) = 0 := by rw [e1, i01]; exact fun z => z c
    have e2 := c_canSendNow hK (by decide) hg0.1 hg0.2.1 hp
    rw [if_neg n1, if_neg n1]
    by_cases d : aMay (rA σ) p1.toNat
    · have n2 : ¬ x_wr (V_X0_canSendNow σ 0 p1.toNat) = 0 := by rw [e2, i01]; exact fun z => z d
      rw [if_neg n2, if_neg n2]
      have hM : eM σ (S_X0_dispatch (S_X2_push σ 0 0 τ) 0 p1.toNat) := fun t i k ht => by rw [fr_S_X0_dispatch _ _ _ (by omega), push_M t i k ht]
      have hA := notes_A h hM
      have hc := push_now h
      have hC := cF_dispatch (f := 0) (F := rF σ) hc.1 hc.2 hk.2.2.2.2.2 hp
      have e3 := v_isOne (σ := S_X0_dispatch (S_X2_push σ 0 0 τ) 0 p1.toNat) hw hK (by rw [hM _ _ _ (by omega)]; exact hk.2.2.2.1)
      have n3 : ¬ x_wr (V_X7_isOne (S_X0_dispatch (S_X2_push σ 0 0 τ) 0 p1.toNat) p1) = 0 := by rw [e3, i01]; exact fun z => z c
      have e4 := rA_maySend (m := S_X0_dispatch (S_X2_push σ 0 0 τ) 0 p1.toNat) (D := 999) hK (by decide) (by rw [hA.2.2.1]; exact hg0.2.1) hp
      have n4 : ¬ x_wr (V_X7_maySend (S_X0_dispatch (S_X2_push σ 0 0 τ) 0 p1.toNat) p1.toNat) = 0 := by rw [e4, i01, hA.2.2.1]; exact fun z => z d
      unfold V_X7_send S_X7_send
      rw [if_neg n3, if_neg n3, if_neg n4, if_neg n4]
      have hml : 0 ≤ S_X7_notes (S_X0_dispatch (S_X2_push σ 0 0 τ) 0 p1.toNat) u 26 0 p1.toNat ∧ S_X7_notes (S_X0_dispatch (S_X2_push σ 0 0 τ) 0 p1.toNat) u 26 0 p1.toNat ≤ 40 := by
        have := (hk.2.2.2.2.2 _ hp).2.1
        have e : rF (S_X7_notes (S_X0_dispatch (S_X2_push σ 0 0 τ) 0 p1.toNat) u) 1 p1.toNat = rF σ 1 p1.toNat := by rw [hA.2.1]
        rw [← e] at this
        exact this
      have hS := rA_sends (m := S_X7_notes (S_X0_dispatch (S_X2_push σ 0 0 τ) 0 p1.toNat) u) (p := p1.toNat) (by omega) hml
      rw [hA.1, hA.2.1] at hS
      refine ⟨?_, h.act hM (fun t i k h1 h2 => fr_S_X0_dispatch _ _ _ (by omega)) (sM_sends _ _) (fun t i k ht => by rw [fr_S_X7_sends _ _ (by omega), fr_S_X7_notes _ _ (by omega)]) ?_⟩
      · have q1 := (hC.2.1 _ hp).2.1
        have q2 : rA (S_X7_sends (S_X7_notes (S_X0_dispatch (S_X2_push σ 0 0 τ) 0 p1.toNat) u) p1.toNat) 1 p1.toNat = S_X7_sends (S_X7_notes (S_X0_dispatch (S_X2_push σ 0 0 τ) 0 p1.toNat) u) p1.toNat 30 0 p1.toNat := rA_at _ (by omega) (by omega)
        rw [q1, ← q2, hS]
      · rw [hS]
        refine ⟨hC, aSend_W hk.2.2.2.2.2 hg0.2.1 hp d, ?_⟩
        rw [(sM_sends _ _).F, hA.2.1]
        exact (aN_send hg0.2.2).1
    · have n2 : x_wr (V_X0_canSendNow σ 0 p1.toNat) = 0 := by rw [e2, i01]; exact d
      rw [if_pos n2, if_pos n2]
      have e3 := v_isOne (σ := σ) hw hK hk.2.2.2.1
      have n3 : ¬ x_wr (V_X7_isOne σ p1) = 0 := by rw [e3, i01]; exact fun z => z c
      have e4 := rA_maySend (m := σ) (D := 999) hK (by decide) hg0.2.1 hp
      have n4 : x_wr (V_X7_maySend σ p1.toNat) = 0 := by rw [e4, i01]; exact d
      unfold V_X7_send S_X7_send
      rw [if_neg n3, if_neg n3, if_pos n4, if_pos n4]
      exact ⟨rfl, _, _, _, _, _, _, _, h⟩
  · have n1 : x_wr (V_X6_isPerson σ p1) = 0 := by rw [e1, i01]; exact c
    have e3 := v_isOne (σ := σ) hw hK hk.2.2.2.1
    have n3 : x_wr (V_X7_isOne σ p1) = 0 := by rw [e3, i01]; exact c
    rw [if_pos n1, if_pos n1]
    unfold V_X7_send S_X7_send
    rw [if_pos n3, if_pos n3]
    exact ⟨rfl, _, _, _, _, _, _, _, h⟩
theorem m_call {K u τ v τ1 z w : Nat} {σ : xMi} (h : Rl K u τ v τ1 z w σ σ) {p1 : Int} (hw : x_wr p1 = p1) : V_X6_call σ p1 K τ = V_X7_call (S_X6_call σ p1 K τ) p1 K u ∧ RR (S_X7_call (S_X6_call σ p1 K τ) p1 K u) := by
  obtain ⟨hk, hg0, -⟩ := id h
  have hK := hk.2.1
  have e1 := v_isPerson (σ := σ) hw hK hk.2.2.1
  unfold V_X6_call S_X6_call
  by_cases c : 0 ≤ p1 ∧ p1 < K
  · have hp : p1.toNat < K := by omega
    have n1 : ¬ x_wr (V_X6_isPerson σ p1) = 0 := by rw [e1, i01]; exact fun z => z c
    have hr := hg0.2.1.row hp
    have e2 : x_wr (σ 1 0 p1.toNat) = rA σ 0 p1.toNat := by rw [(hg0.1.2.1 _ hp).1]; exact x_wrs (by omega) (by omega)
    have i0 : rA σ 0 p1.toNat = σ 29 0 p1.toNat := rA_at _ (by omega) (by omega)
    rw [if_neg n1, if_neg n1, e2]
    by_cases d : rA σ 0 p1.toNat = 0
    · rw [if_pos d, if_pos d]
      have e3 := v_isOne (σ := σ) hw hK hk.2.2.2.1
      have n3 : ¬ x_wr (V_X7_isOne σ p1) = 0 := by rw [e3, i01]; exact fun z => z c
      unfold V_X7_call S_X7_call
      have n4 : x_wr (σ 29 0 p1.toNat) = 0 := by rw [← i0, d]; exact xw0
      rw [if_neg n3, if_neg n3, if_pos n4, if_pos n4]
      exact ⟨rfl, _, _, _, _, _, _, _, h⟩
    · rw [if_neg d, if_neg d]
      have hM : eM σ (S_X0_recall (S_X2_push σ 0 0 τ) 0 p1.toNat) := fun t i k ht => by rw [fr_S_X0_recall _ _ _ (by omega), push_M t i k ht]
      have hA := notes_A h hM
      have hc := push_now h
      have hC := cF_recall (f := 0) hK hc.1 hg0.2.1 hp
      have e3 := v_isOne (σ := S_X0_recall (S_X2_push σ 0 0 τ) 0 p1.toNat) hw hK (by rw [hM _ _ _ (by omega)]; exact hk.2.2.2.1)
      have n3 : ¬ x_wr (V_X7_isOne (S_X0_recall (S_X2_push σ 0 0 τ) 0 p1.toNat) p1) = 0 := by rw [e3, i01]; exact fun z => z c
      have n4 : ¬ x_wr (S_X0_recall (S_X2_push σ 0 0 τ) 0 p1.toNat 29 0 p1.toNat) = 0 := by
        rw [hM _ _ _ (by omega), ← i0, x_wrs (by omega) (by omega)]; exact d
      unfold V_X7_call S_X7_call
      rw [if_neg n3, if_neg n3, if_neg n4, if_neg n4]
      have hWn : aW K 999 (rA (S_X7_notes (S_X0_recall (S_X2_push σ 0 0 τ) 0 p1.toNat) u)) := by rw [hA.1]; exact hg0.2.1
      have hrn := rA_row hK hWn hp
      have hS := rA_calls (m := S_X7_notes (S_X0_recall (S_X2_push σ 0 0 τ) 0 p1.toNat) u) (p := p1.toNat) (by omega) (rA_g hWn).2.1 (by omega)
      rw [hA.1] at hS
      refine ⟨?_, h.act hM (fun t i k h1 h2 => fr_S_X0_recall _ _ _ (by omega)) (sM_calls _ _) (fun t i k ht => by rw [fr_S_X7_calls _ _ (by omega), fr_S_X7_notes _ _ (by omega)]) ?_⟩
      · have q2 : rA (S_X7_calls (S_X7_notes (S_X0_recall (S_X2_push σ 0 0 τ) 0 p1.toNat) u) p1.toNat) 8 1 = S_X7_calls (S_X7_notes (S_X0_recall (S_X2_push σ 0 0 τ) 0 p1.toNat) u) p1.toNat 24 0 6 := rfl
        rw [hC.1.2.1, ← q2, hS]
      · rw [hS]
        refine ⟨hC, aCall_W hg0.2.1 hp d, ?_⟩
        rw [(sM_calls _ _).F, hA.2.1]
        exact aN_call hg0.2.2
  · have n1 : x_wr (V_X6_isPerson σ p1) = 0 := by rw [e1, i01]; exact c
    have e3 := v_isOne (σ := σ) hw hK hk.2.2.2.1
    have n3 : x_wr (V_X7_isOne σ p1) = 0 := by rw [e3, i01]; exact c
    rw [if_pos n1, if_pos n1]
    unfold V_X7_call S_X7_call
    rw [if_pos n3, if_pos n3]
    exact ⟨rfl, _, _, _, _, _, _, _, h⟩
theorem cF_st {f : Nat} {s : xMi} {K : Nat} {a : aS} {v : Int} (hC : cF f s K a) : cF f (x_up s 0 f 9 v) K (aSt a v) := by
  obtain ⟨⟨g0, g1, g2, g3⟩, hr, hs, hh, hf⟩ := hC
  refine ⟨⟨?_, ?_, ?_, ?_⟩, fun q hq => ?_, ?_, ?_, ?_⟩
  · simpa [x_up, aSt] using g0
  · simp [x_up, aSt]
  · simpa [x_up, aSt] using g2
  · simpa [x_up, aSt] using g3
  · simpa [x_up, aSt] using hr q hq
  · exact (show bB _ K (a 4) from by simpa [x_up] using hs).cong (fun q hq => by simp [aSt])
  · exact (show bB _ K (a 5) from by simpa [x_up] using hh).cong (fun q hq => by simp [aSt])
  · exact (show bB _ K (a 6) from by simpa [x_up] using hf).cong (fun q hq => by simp [aSt])
theorem m_buy {K u τ v τ1 z w : Nat} {σ : xMi} (h : Rl K u τ v τ1 z w σ σ) : V_X6_buy σ τ = V_X7_buy (S_X6_buy σ τ) u ∧ RR (S_X7_buy (S_X6_buy σ τ) u) := by
  obtain ⟨hk, hg0, -⟩ := id h
  have hK := hk.2.1
  have hst := hg0.2.1.2.1
  have i1 : rA σ 8 1 = σ 24 0 6 := rfl
  have e1 : x_wr (σ 0 0 9) = rA σ 8 1 := by rw [hg0.1.1.2.1]; exact x_wrs (by omega) (by omega)
  unfold V_X6_buy S_X6_buy
  rw [e1, xw20]
  by_cases c : rA σ 8 1 < 20
  · rw [if_pos c, if_pos c]
    have hM : eM σ (x_up (S_X2_push σ 0 0 τ) 0 0 9 (((S_X2_push σ 0 0 τ) 0 0 9) + 1)) := fun t i k ht => by rw [x_up_k (by omega), push_M t i k ht]
    have hA := notes_A h hM
    have hc := push_now h
    have hC := cF_st (v := ((S_X2_push σ 0 0 τ) 0 0 9) + 1) hc.1
    rw [hc.1.1.2.1] at hC hM hA ⊢
    have n1 : ¬ x_wr (x_up (S_X2_push σ 0 0 τ) 0 0 9 (rA σ 8 1 + 1) 24 0 6) = x_wr 20 := by
      rw [hM _ _ _ (by omega), xw20, ← i1, x_wrs (by omega) (by omega)]; omega
    unfold V_X7_buy S_X7_buy
    rw [if_neg n1, if_neg n1]
    have e2 : S_X7_notes (x_up (S_X2_push σ 0 0 τ) 0 0 9 (rA σ 8 1 + 1)) u 24 0 6 = rA σ 8 1 := by
      exact congrFun (congrFun hA.1 8) 1
    rw [e2]
    have hS := rA_st (S_X7_notes (x_up (S_X2_push σ 0 0 τ) 0 0 9 (rA σ 8 1 + 1)) u) (rA σ 8 1 + 1)
    rw [hA.1] at hS
    refine ⟨by simp [x_up], h.act hM (fun t i k h1 h2 => x_up_k (by omega)) (sM_st _ _) (fun t i k ht => by rw [x_up_k (by omega), fr_S_X7_notes _ _ (by omega)]) ?_⟩
    rw [hS]
    refine ⟨hC, aSt_W hg0.2.1 (by omega), ?_⟩
    rw [(sM_st _ _).F, hA.2.1]
    exact aN_st hg0.2.2
  · rw [if_neg c, if_neg c]
    have n1 : x_wr (σ 24 0 6) = x_wr 20 := by
      rw [xw20, ← i1, x_wrs (by omega) (by omega)]; omega
    unfold V_X7_buy S_X7_buy
    rw [if_pos n1, if_pos n1]
    exact ⟨rfl, _, _, _, _, _, _, _, h⟩
