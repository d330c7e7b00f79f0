/-! class and reference, side by side -/
theorem a_first_cong {P R : Nat → Bool} : ∀ n i, (∀ j, i ≤ j → j < i + n → P j = R j) → a_first P n i = a_first R n i := by
  intro n
  induction n with
  | zero => intro i _; rfl
  | succ n ih =>
    intro i h
    unfold a_first
    rw [h i (Nat.le_refl i) (by omega), ih (i + 1) (fun j a b => h j (by omega) (by omega))]
theorem Rs.cong {b : Nat} {I : q_Mem} {σ τ : a_A} (h : Rs b I σ) (e : ∀ k, k < 267 → τ k = σ k) : Rs b I τ := by
  have eT : a_T τ = a_T σ := by unfold a_T; rw [e 1 (by decide)]
  have eF : a_F τ = a_F σ := by unfold a_F; rw [e 2 (by decide)]
  unfold Rs at h ⊢
  rw [eT, eF]
  obtain ⟨⟨⟨hT, hF⟩, ⟨h1, h2, h3⟩, h4, h5, h6⟩, h7, ⟨w1, w2⟩, ⟨w3, w4⟩, w5, w6, w7, w8, w9, w10, w11⟩ := h
  refine ⟨⟨⟨hT, hF⟩, ⟨h1.trans (e 0 (by decide)).symm, h2, h3⟩, fun i hi => ?_, fun f hf => ?_, fun p hp => ?_⟩, fun i hi => ?_, ⟨(e 1 (by decide)).trans w1, w2⟩, ⟨(e 2 (by decide)).trans w3, w4⟩, fun i hi => ?_, fun i hi => ?_, fun i hi => ?_, fun i hi => ?_, fun f hf => ?_, fun f g hf hg => ?_, fun p hp => ?_⟩
  · obtain ⟨a1, a2, a3⟩ := h4 i hi
    exact ⟨fun k hk => (a1 k hk).trans (e _ (by omega)).symm, a2.trans (e _ (by omega)).symm, a3.trans (e _ (by omega)).symm⟩
  · obtain ⟨a0, a1, a2, a3, a4, a5⟩ := h5 f hf
    rw [e _ (by omega), e _ (by omega), e _ (by omega), e _ (by omega), e _ (by omega), e _ (by omega)]
    exact ⟨a0, a1, a2, a3, a4, a5⟩
  · rw [e _ (by omega), e _ (by omega), e _ (by omega)]
    exact h6 p hp
  · rw [h7 i hi]
    unfold a_fixerOf
    rw [eF]
    exact a_first_cong _ _ fun j a b => by rw [e _ (by omega)]
  · rw [e _ (by omega)]; exact w5 i hi
  · rw [e _ (by omega)]; exact w6 i hi
  · rw [e _ (by omega)]; exact w7 i hi
  · rw [e _ (by omega), e _ (by omega)]; exact w8 i hi
  · obtain ⟨x, x1, x2, x3⟩ := w9 f hf
    exact ⟨x, x1, (e _ (by omega)).trans x2, fun i hi => (e _ (by omega)).trans (x3 i hi)⟩
  · rw [e _ (by omega), e _ (by omega)]; exact w10 f g hf hg
  · rw [e _ (by omega)]; exact w11 p hp
theorem Ds.cong {d u : Nat} {I : q_Mem} {σ τ : a_A} {H : Nat → a_A} (h : Ds d I σ u H) (e : ∀ k, k < 267 → τ k = σ k) : Ds d I τ u H := ⟨h.1.cong e, h.2⟩
/-- the class's side: what it holds -/
def l_C (d o : Nat) (Sh : q_Sh) (I : q_Mem) (σ : a_A) (u : Nat) (H : Nat → a_A) (P : a_A) (len : Nat) (Q : Nat → Option a_A) : Prop :=
  (dOk Sh d ∧ mOk Sh o ∧ q_cl Sh) ∧ Ds d I σ u H ∧ Pk (d + 427) I P len ∧
  (∀ c, c < 2 → (Sh.2.2 (d + 426) c = none ∧ Q c = none) ∨ ∃ b τ, Sh.2.2 (d + 426) c = some b ∧ Q c = some τ ∧ cOk Sh b ∧ o + 8 ≤ b ∧ Rs b I τ) ∧
  ∀ a b, Sh.2.2 (d + 426) 0 = some a → Sh.2.2 (d + 426) 1 = some b → a + 47 ≤ b ∨ b + 47 ≤ a
/-- the reference's side -/
def l_M (o : Nat) (I : q_Mem) (σ : a_A) (u : Nat) (H : Nat → a_A) (P : a_A) (len : Nat) (Q : Nat → Option a_A) : Prop :=
  I (o + 1) = σ ∧ (I o 0 = nI 0 ∧ I o 4 = nI u ∧ I o 8 = nI len) ∧ (∀ i, i < u → ∀ k, k < 267 → I (o + 3) (267 * i + k) = H i k) ∧ I (o + 6) = P ∧
  ∀ c, c < 2 → (Q c = none ∧ I (o + 5) c = 0) ∨ ∃ τ, Q c = some τ ∧ ¬ I (o + 5) c = 0 ∧ ∀ k, k < 267 → I (o + 4) (267 * c + k) = τ k
def l_I (d o : Nat) (Sh : q_Sh) (I : q_Mem) : Prop := d + 429 ≤ o ∧ ∃ σ u H P len Q, l_C d o Sh I σ u H P len Q ∧ l_M o I σ u H P len Q
def F_M (o : Nat) (I J : q_Mem) : Prop := ∀ l, o ≤ l → l < o + 8 → J l = I l
def F_C (o : Nat) (I J : q_Mem) : Prop := ∀ l, (l < o ∨ o + 8 ≤ l) → J l = I l
theorem l_M.fr {o u len : Nat} {I J : q_Mem} {σ P : a_A} {H : Nat → a_A} {Q : Nat → Option a_A} (h : l_M o I σ u H P len Q) (k : F_M o I J) : l_M o J σ u H P len Q := by
  obtain ⟨h1, ⟨h2, h3, h4⟩, h5, h6, h7⟩ := h
  unfold l_M
  rw [k (o + 1) (by omega) (by omega), k o (by omega) (by omega), k (o + 3) (by omega) (by omega), k (o + 4) (by omega) (by omega), k (o + 5) (by omega) (by omega), k (o + 6) (by omega) (by omega)]
  exact ⟨h1, ⟨h2, h3, h4⟩, h5, h6, h7⟩
theorem l_C.fr {d o u len : Nat} {Sh : q_Sh} {I J : q_Mem} {σ P : a_A} {H : Nat → a_A} {Q : Nat → Option a_A} (hd : d + 429 ≤ o) (h : l_C d o Sh I σ u H P len Q) (k : F_C o I J) : l_C d o Sh J σ u H P len Q := by
  obtain ⟨h1, h2, h3, h4, h5⟩ := h
  refine ⟨h1, h2.loc (fun l a b => k l (by omega)), h3.loc (k _ (by omega)) (k _ (by omega)), fun c hc => ?_, h5⟩
  rcases h4 c hc with q | ⟨b, τ, q1, q2, q3, q4, q5⟩
  · exact Or.inl q
  · exact Or.inr ⟨b, τ, q1, q2, q3, q4, q5.loc (fun l a b => k l (by omega))⟩
theorem l_C.ch {d o u u2 len : Nat} {Sh : q_Sh} {I J : q_Mem} {σ σ2 P : a_A} {H H2 : Nat → a_A} {Q : Nat → Option a_A} (hd : d + 429 ≤ o) (h : l_C d o Sh I σ u H P len Q) (hD : Ds d J σ2 u2 H2) (k : FrD d I J) : l_C d o Sh J σ2 u2 H2 P len Q ∧ F_M o I J := by
  obtain ⟨h1, h2, h3, h4, h5⟩ := h
  refine ⟨⟨h1, hD, h3.loc (k _ (by omega)) (k _ (by omega)), fun c hc => ?_, h5⟩, fun l a b => k l (by omega)⟩
  rcases h4 c hc with q | ⟨b, τ, q1, q2, q3, q4, q5⟩
  · exact Or.inl q
  · exact Or.inr ⟨b, τ, q1, q2, q3, q4, q5.loc (fun l a b => k l (by omega))⟩
/-- .. with another pad -/
theorem l_C.pd {d o u u2 len len2 : Nat} {Sh : q_Sh} {I J : q_Mem} {σ σ2 P P2 : a_A} {H H2 : Nat → a_A} {Q : Nat → Option a_A} (hd : d + 429 ≤ o) (h : l_C d o Sh I σ u H P len Q) (hD : Ds d J σ2 u2 H2) (hP : Pk (d + 427) J P2 len2) (k : ∀ l, d + 429 ≤ l → J l = I l) : l_C d o Sh J σ2 u2 H2 P2 len2 Q ∧ F_M o I J := by
  obtain ⟨h1, h2, h3, h4, h5⟩ := h
  refine ⟨⟨h1, hD, hP, fun c hc => ?_, h5⟩, fun l a b => k l (by omega)⟩
  rcases h4 c hc with q | ⟨b, τ, q1, q2, q3, q4, q5⟩
  · exact Or.inl q
  · exact Or.inr ⟨b, τ, q1, q2, q3, q4, q5.loc (fun l a b => k l (by omega))⟩
theorem a_recU_at {U σ : a_A} {u i k : Nat} {H : Nat → a_A} (hu : u ≤ 6) (h : ∀ i, i < u → ∀ k, k < 267 → U (267 * i + k) = H i k) (hi : i < a_recN u) (hk : k < 267) : a_recU U σ u (267 * i + k) = a_push u H σ i k := by
  unfold a_recN at hi
  unfold a_recU a_push a_recS
  by_cases e6 : u = 6
  · rw [if_pos e6] at hi ⊢
    rw [if_pos e6]
    by_cases e5 : i = 5
    · subst e5
      rw [if_pos rfl]
      show (if _ then _ else _) = _
      rw [if_pos (by omega)]
      exact congrArg σ (by omega)
    · rw [if_neg e5]
      show (if _ then _ else _) = _
      rw [if_neg (by omega)]
      unfold a_sh
      rw [if_pos (by omega), show 267 * i + k + 267 = 267 * (i + 1) + k by omega]
      exact h (i + 1) (by omega) k hk
  · rw [if_neg e6] at hi ⊢
    rw [if_neg e6]
    by_cases e5 : i = u
    · subst e5
      rw [if_pos rfl]
      show (if _ then _ else _) = _
      rw [if_pos (by omega)]
      exact congrArg σ (by omega)
    · rw [if_neg e5]
      show (if _ then _ else _) = _
      rw [if_neg (by omega)]
      exact h i (by omega) k hk
theorem l_M.rec {o u len : Nat} {I : q_Mem} {σ σ2 P : a_A} {H : Nat → a_A} {Q : Nat → Option a_A} (h : l_M o I σ u H P len Q) (hu : u ≤ 6) : l_M o (q_setA (a_rec I o σ) (o + 1) σ2) σ2 (a_recN u) (a_push u H σ) P len Q ∧ F_C o I (q_setA (a_rec I o σ) (o + 1) σ2) := by
  obtain ⟨h1, ⟨h2, h3, h4⟩, h5, h6, h7⟩ := h
  have en : a_n (I o 4) = u := by rw [h3]; exact nI_clamp (by omega)
  have fr : ∀ l, l ≠ o + 1 → l ≠ o → l ≠ o + 3 → q_setA (a_rec I o σ) (o + 1) σ2 l = I l := fun l a b c => (q_setA_ne a).trans (a_rec_at b c)
  refine ⟨⟨q_setA_at _ _ _, ⟨?_, ?_, ?_⟩, fun i hi k hk => ?_, ?_, ?_⟩, fun l hl => fr l (by omega) (by omega) (by omega)⟩
  · rw [q_setA_ne (by omega), a_rec_o (by decide)]; exact h2
  · rw [q_setA_ne (by omega)]
    unfold a_rec
    rw [q_setA_at, q_upd_at, en]
  · rw [q_setA_ne (by omega), a_rec_o (by decide)]; exact h4
  · rw [q_setA_ne (by omega)]
    unfold a_rec
    rw [q_setA_ne (by omega), q_setA_at, en]
    exact a_recU_at hu h5 hi hk
  · rw [fr _ (by omega) (by omega) (by omega)]; exact h6
  · rw [fr (o + 5) (by omega) (by omega) (by omega), fr (o + 4) (by omega) (by omega) (by omega)]; exact h7
/-- a call on both sides: the same answer, and what holds of both holds again -/
def l_P (YC YM : q_Mth) (args : List Value) (d o : Nat) (Sh : q_Sh) (I : q_Mem) : Prop :=
  ∃ (dC dM mc ms : Nat) (v : Int32) (Mid : q_Sh → q_Mem → Prop), (dC ≤ 9 ∧ dM ≤ 9 ∧ mc ≤ 47 ∧ ms ≤ 343) ∧ q_Call YC dC mc ms (.ref d :: args) Sh I (fun w S J => w = some (.int v) ∧ Mid S J) ∧
    ∀ S J, Mid S J → (d < S.1 ∧ q_is S o 7) ∧ q_Call YM dM 0 0 (.ref o :: args) S J (fun w S2 J2 => w = some (.int v) ∧ l_I d o S2 J2)
theorem l_P_of {YC YM : q_Mth} {args : List Value} {d o u u2 len len2 dC dM : Nat} {Sh : q_Sh} {I : q_Mem} {σ σ2 P P2 : a_A} {H H2 : Nat → a_A} {Q Q2 : Nat → Option a_A} {v : Int32} (hd : d + 429 ≤ o) (hdC : dC ≤ 9) (hdM : dM ≤ 9) (hM : l_M o I σ u H P len Q)
    (kC : q_Rp YC dC (.ref d :: args) Sh I (fun w J => w = some (.int v) ∧ l_C d o Sh J σ2 u2 H2 P2 len2 Q2 ∧ F_M o I J))
    (kM : ∀ J, l_M o J σ u H P len Q → F_M o I J → q_Rp YM dM (.ref o :: args) Sh J (fun w J2 => w = some (.int v) ∧ l_M o J2 σ2 u2 H2 P2 len2 Q2 ∧ F_C o J J2)) : l_P YC YM args d o Sh I := by
  refine ⟨dC, dM, 0, 0, v, fun S J => S = Sh ∧ l_C d o Sh J σ2 u2 H2 P2 len2 Q2 ∧ l_M o J σ u H P len Q ∧ F_M o I J, ⟨hdC, hdM, by decide, by decide⟩, q_call_mono kC fun w S J q => ⟨q.2.1, q.1, q.2.2.1, hM.fr q.2.2.2, q.2.2.2⟩, ?_⟩
  rintro S J ⟨rfl, q1, q2, q3⟩
  refine ⟨⟨by have := dHi q1.1.1; omega, q1.1.2.1.1⟩, q_call_mono (kM J q2 q3) fun w S2 J2 r => ?_⟩
  obtain ⟨rfl, r1, r2, r3⟩ := r
  exact ⟨r1, hd, _, _, _, _, _, _, q1.fr hd r3, r2⟩
