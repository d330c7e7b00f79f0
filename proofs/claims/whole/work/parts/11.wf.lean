/-! what holds of every state, kept by every step -/
def a_W (T F : Nat) (σ : a_A) : Prop :=
  (σ 1 = nI T ∧ T ≤ 30) ∧ (σ 2 = nI F ∧ F ≤ 5) ∧
  (∀ i, i < T → ∃ k, k < 6 ∧ σ (57 + 7 * i) = nI k) ∧
  (∀ i, i < T → ∃ m, m < 256 ∧ σ (57 + 7 * i + 1) = nI m) ∧
  (∀ i, i < T → ∃ h, h ≤ 4 ∧ σ (57 + 7 * i + 4) = nI h) ∧
  (∀ i, i < T → σ (57 + 7 * i + 4) = 0 → ∃ p, 1 ≤ p ∧ p ≤ 99 ∧ σ (57 + 7 * i + 2) = nI p) ∧
  (∀ f, f < F → ∃ h, h ≤ T ∧ σ (27 + 6 * f + 2) = nI h ∧ ∀ i, h = i + 1 → σ (57 + 7 * i + 4) = nI 1) ∧
  (∀ f g, f < F → g < F → σ (27 + 6 * f + 2) = σ (27 + 6 * g + 2) → σ (27 + 6 * f + 2) ≠ 0 → f = g) ∧
  (∀ p, p < 8 → ∃ s, s ≤ 99 ∧ σ (3 + p) = nI s)
theorem a_W_T {T F : Nat} {σ : a_A} (h : a_W T F σ) : a_T σ = T := by unfold a_T a_n; rw [h.1.1]; exact nI_clamp (by have := h.1.2; omega)
theorem a_W_F {T F : Nat} {σ : a_A} (h : a_W T F σ) : a_F σ = F := by unfold a_F a_n; rw [h.2.1.1]; exact nI_clamp (by have := h.2.1.2; omega)
theorem a_wf_W {σ : a_A} : a_wf σ ↔ a_W (a_T σ) (a_F σ) σ := Iff.rfl
theorem a_W_wf {T F : Nat} {σ : a_A} (h : a_W T F σ) : a_wf σ := by
  have e1 := a_W_T h
  have e2 := a_W_F h
  rw [a_wf_W, e1, e2]
  exact h
/-- places that nothing is said of -/
def a_free (j : Nat) : Prop := j = 0 ∨ (11 ≤ j ∧ j < 27) ∨ (27 ≤ j ∧ j < 57 ∧ (j - 27) % 6 ≠ 2) ∨ (57 ≤ j ∧ ((j - 57) % 7 = 3 ∨ 5 ≤ (j - 57) % 7))
theorem a_W_free {T F j : Nat} {σ : a_A} {v : Int32} (h : a_W T F σ) (hj : a_free j) : a_W T F (upd σ j v) := by
  obtain ⟨⟨h1, h1'⟩, ⟨h2, h2'⟩, h3, h4, h5, h6, h7, h8, h9⟩ := h
  unfold a_free at hj
  refine ⟨⟨by rw [q_upd_ne (by omega)]; exact h1, h1'⟩, ⟨by rw [q_upd_ne (by omega)]; exact h2, h2'⟩, fun i hi => by rw [q_upd_ne (by omega)]; exact h3 i hi, fun i hi => by rw [q_upd_ne (by omega)]; exact h4 i hi, fun i hi => by rw [q_upd_ne (by omega)]; exact h5 i hi, fun i hi => by rw [q_upd_ne (by omega), q_upd_ne (by omega)]; exact h6 i hi, fun f hf => ?_, fun f g hf hg => by rw [q_upd_ne (by omega), q_upd_ne (by omega)]; exact h8 f g hf hg, fun p hp => by rw [q_upd_ne (by omega)]; exact h9 p hp⟩
  obtain ⟨x, a, b, c⟩ := h7 f hf
  exact ⟨x, a, by rw [q_upd_ne (by omega)]; exact b, fun i hi => by rw [q_upd_ne (by omega)]; exact c i hi⟩
theorem a_W_B {T F t m : Nat} {σ : a_A} (h : a_W T F σ) (hm : m < 256) : a_W T F (upd σ (57 + 7 * t + 1) (nI m)) := by
  obtain ⟨⟨h1, h1'⟩, ⟨h2, h2'⟩, h3, h4, h5, h6, h7, h8, h9⟩ := h
  refine ⟨⟨by rw [q_upd_ne (by omega)]; exact h1, h1'⟩, ⟨by rw [q_upd_ne (by omega)]; exact h2, h2'⟩, fun i hi => by rw [q_upd_ne (by omega)]; exact h3 i hi, fun i hi => ?_, fun i hi => by rw [q_upd_ne (by omega)]; exact h5 i hi, fun i hi => by rw [q_upd_ne (by omega), q_upd_ne (by omega)]; exact h6 i hi, fun f hf => ?_, fun f g hf hg => by rw [q_upd_ne (by omega), q_upd_ne (by omega)]; exact h8 f g hf hg, fun p hp => by rw [q_upd_ne (by omega)]; exact h9 p hp⟩
  · by_cases e : i = t
    · subst e; exact ⟨m, hm, q_upd_at _ _ _⟩
    · rw [q_upd_ne (by omega)]; exact h4 i hi
  · obtain ⟨x, a, b, c⟩ := h7 f hf
    exact ⟨x, a, by rw [q_upd_ne (by omega)]; exact b, fun i hi => by rw [q_upd_ne (by omega)]; exact c i hi⟩
theorem a_W_Q {T F p s : Nat} {σ : a_A} (h : a_W T F σ) (hp : p < 8) (hs : s ≤ 99) : a_W T F (upd σ (3 + p) (nI s)) := by
  obtain ⟨⟨h1, h1'⟩, ⟨h2, h2'⟩, h3, h4, h5, h6, h7, h8, h9⟩ := h
  refine ⟨⟨by rw [q_upd_ne (by omega)]; exact h1, h1'⟩, ⟨by rw [q_upd_ne (by omega)]; exact h2, h2'⟩, fun i hi => by rw [q_upd_ne (by omega)]; exact h3 i hi, fun i hi => by rw [q_upd_ne (by omega)]; exact h4 i hi, fun i hi => by rw [q_upd_ne (by omega)]; exact h5 i hi, fun i hi => by rw [q_upd_ne (by omega), q_upd_ne (by omega)]; exact h6 i hi, fun f hf => ?_, fun f g hf hg => by rw [q_upd_ne (by omega), q_upd_ne (by omega)]; exact h8 f g hf hg, fun q hq => ?_⟩
  · obtain ⟨x, a, b, c⟩ := h7 f hf
    exact ⟨x, a, by rw [q_upd_ne (by omega)]; exact b, fun i hi => by rw [q_upd_ne (by omega)]; exact c i hi⟩
  · by_cases e : q = p
    · subst e; exact ⟨s, hs, q_upd_at _ _ _⟩
    · rw [q_upd_ne (by omega)]; exact h9 q hq
theorem a_ne01 {h : Nat} (hh : h ≤ 4) (h0 : h ≠ 0) : ¬ nI h = 0 := nI_ne0 (by omega) (by omega)
theorem a_how_ne {h k : Nat} (hh : h ≤ 4) (hk : k ≤ 4) (hne : h ≠ k) : ¬ nI h = nI k := fun q => hne ((nI_eq (by omega) (by omega)).mp q)
/-- a thing that no fixer has changes how it is, but not back to waiting -/
theorem a_W_how {T F t x : Nat} {σ : a_A} (h : a_W T F σ) (hx : x ≤ 4) (hx0 : x ≠ 0) (hno : ∀ f, f < F → σ (27 + 6 * f + 2) ≠ nI (t + 1)) : a_W T F (upd σ (57 + 7 * t + 4) (nI x)) := by
  obtain ⟨⟨h1, h1'⟩, ⟨h2, h2'⟩, h3, h4, h5, h6, h7, h8, h9⟩ := h
  refine ⟨⟨by rw [q_upd_ne (by omega)]; exact h1, h1'⟩, ⟨by rw [q_upd_ne (by omega)]; exact h2, h2'⟩, fun i hi => by rw [q_upd_ne (by omega)]; exact h3 i hi, fun i hi => by rw [q_upd_ne (by omega)]; exact h4 i hi, fun i hi => ?_, fun i hi => ?_, fun f hf => ?_, fun f g hf hg => by rw [q_upd_ne (by omega), q_upd_ne (by omega)]; exact h8 f g hf hg, fun p hp => by rw [q_upd_ne (by omega)]; exact h9 p hp⟩
  · by_cases e : i = t
    · subst e; exact ⟨x, hx, q_upd_at _ _ _⟩
    · rw [q_upd_ne (by omega)]; exact h5 i hi
  · by_cases e : i = t
    · subst e; rw [q_upd_at]; exact fun q => absurd q (a_ne01 hx hx0)
    · rw [q_upd_ne (by omega), q_upd_ne (by omega)]; exact h6 i hi
  · obtain ⟨y, a, b, c⟩ := h7 f hf
    refine ⟨y, a, by rw [q_upd_ne (by omega)]; exact b, fun i hi => ?_⟩
    by_cases e : i = t
    · subst e; subst hi; exact absurd b (hno f hf)
    · rw [q_upd_ne (by omega)]; exact c i hi
/-- a fixer's thing ends -/
theorem a_W_end {T F t f x : Nat} {σ : a_A} (h : a_W T F σ) (hf : f < F) (hx : x ≤ 4) (hx0 : x ≠ 0) (hh : σ (27 + 6 * f + 2) = nI (t + 1)) : a_W T F (upd (upd σ (57 + 7 * t + 4) (nI x)) (27 + 6 * f + 2) 0) := by
  have hh0 := h
  obtain ⟨⟨h1, h1'⟩, ⟨h2, h2'⟩, h3, h4, h5, h6, h7, h8, h9⟩ := h
  refine ⟨⟨by simp (disch := omega) only [q_upd_ne]; exact h1, h1'⟩, ⟨by simp (disch := omega) only [q_upd_ne]; exact h2, h2'⟩, fun i hi => by simp (disch := omega) only [q_upd_ne]; exact h3 i hi, fun i hi => by simp (disch := omega) only [q_upd_ne]; exact h4 i hi, fun i hi => ?_, fun i hi => ?_, fun g hg => ?_, fun g1 g2 hg1 hg2 => ?_, fun p hp => by simp (disch := omega) only [q_upd_ne]; exact h9 p hp⟩
  · rw [q_upd_ne (by omega)]
    by_cases e : i = t
    · subst e; exact ⟨x, hx, q_upd_at _ _ _⟩
    · rw [q_upd_ne (by omega)]; exact h5 i hi
  · rw [q_upd_ne (by omega), q_upd_ne (k := 27 + 6 * f + 2) (by omega), q_upd_ne (j := 57 + 7 * i + 2) (by omega)]
    by_cases e : i = t
    · subst e; rw [q_upd_at]; exact fun q => absurd q (a_ne01 hx hx0)
    · rw [q_upd_ne (by omega)]; exact h6 i hi
  · by_cases e : g = f
    · subst e; exact ⟨0, by omega, by rw [q_upd_at]; rfl, fun i hi => by omega⟩
    · obtain ⟨y, a, b, c⟩ := h7 g hg
      refine ⟨y, a, by rw [q_upd_ne (by omega), q_upd_ne (by omega)]; exact b, fun i hi => ?_⟩
      have e2 : i ≠ t := by
        intro q
        subst q; subst hi
        exact e (h8 g f hg hf (b.trans hh.symm) (by rw [b]; exact nI_ne0 (by omega) (by omega)))
      rw [q_upd_ne (by omega), q_upd_ne (by omega)]; exact c i hi
  · by_cases e1 : g1 = f
    · subst e1; rw [q_upd_at]; exact fun _ q => absurd rfl q
    · by_cases e2 : g2 = f
      · subst e2; rw [q_upd_at, q_upd_ne (by omega)]; exact fun q z => absurd q z
      · simp (disch := omega) only [q_upd_ne]; exact h8 g1 g2 hg1 hg2
/-- a free fixer takes a waiting thing -/
theorem a_W_take {T F t f : Nat} {σ : a_A} (h : a_W T F σ) (hf : f < F) (ht : t < T) (hw : σ (57 + 7 * t + 4) = 0) : a_W T F (upd (upd σ (57 + 7 * t + 4) (nI 1)) (27 + 6 * f + 2) (nI (t + 1))) := by
  obtain ⟨⟨h1, h1'⟩, ⟨h2, h2'⟩, h3, h4, h5, h6, h7, h8, h9⟩ := h
  have hno : ∀ g, g < F → σ (27 + 6 * g + 2) ≠ nI (t + 1) := by
    intro g hg q
    obtain ⟨y, a, b, c⟩ := h7 g hg
    have e := (nI_eq (by omega) (by omega)).mp (q.symm.trans b)
    have := c t e.symm
    rw [hw] at this
    exact absurd this (by decide)
  refine ⟨⟨by simp (disch := omega) only [q_upd_ne]; exact h1, h1'⟩, ⟨by simp (disch := omega) only [q_upd_ne]; exact h2, h2'⟩, fun i hi => by simp (disch := omega) only [q_upd_ne]; exact h3 i hi, fun i hi => by simp (disch := omega) only [q_upd_ne]; exact h4 i hi, fun i hi => ?_, fun i hi => ?_, fun g hg => ?_, fun g1 g2 hg1 hg2 => ?_, fun p hp => by simp (disch := omega) only [q_upd_ne]; exact h9 p hp⟩
  · rw [q_upd_ne (by omega)]
    by_cases e : i = t
    · subst e; exact ⟨1, by omega, q_upd_at _ _ _⟩
    · rw [q_upd_ne (by omega)]; exact h5 i hi
  · rw [q_upd_ne (by omega), q_upd_ne (k := 27 + 6 * f + 2) (by omega), q_upd_ne (j := 57 + 7 * i + 2) (by omega)]
    by_cases e : i = t
    · subst e; rw [q_upd_at]; exact fun q => absurd q (by decide)
    · rw [q_upd_ne (by omega)]; exact h6 i hi
  · by_cases e : g = f
    · subst e
      refine ⟨t + 1, by omega, by rw [q_upd_at], fun i hi => ?_⟩
      have : i = t := by omega
      subst this
      rw [q_upd_ne (by omega), q_upd_at]
    · obtain ⟨y, a, b, c⟩ := h7 g hg
      refine ⟨y, a, by rw [q_upd_ne (by omega), q_upd_ne (by omega)]; exact b, fun i hi => ?_⟩
      have e2 : i ≠ t := fun q => by subst q; subst hi; exact hno g hg b
      rw [q_upd_ne (by omega), q_upd_ne (by omega)]; exact c i hi
  · by_cases e1 : g1 = f
    · subst e1
      by_cases e2 : g2 = g1
      · exact fun _ _ => e2.symm
      · rw [q_upd_at, q_upd_ne (by omega), q_upd_ne (by omega)]; exact fun q _ => absurd q.symm (hno g2 hg2)
    · by_cases e2 : g2 = f
      · subst e2; rw [q_upd_at, q_upd_ne (by omega), q_upd_ne (by omega)]; exact fun q _ => absurd q (hno g1 hg1)
      · simp (disch := omega) only [q_upd_ne]; exact h8 g1 g2 hg1 hg2
theorem a_fold_W {T F : Nat} {f : Nat → a_A → a_A} {N : Nat} (hf : ∀ i σ, i < N → a_W T F σ → a_W T F (f i σ)) : ∀ n σ, n ≤ N → a_W T F σ → a_W T F (q_fold f n σ) := by
  intro n
  induction n with
  | zero => intro σ _ h; exact h
  | succ n ih => intro σ hn h; exact hf n _ (by omega) (ih σ (by omega) h)
theorem a_goes_v (σ : a_A) (p : Nat) : (a_goes σ p = 1 ∧ σ (3 + p) < nI 99) ∨ (a_goes σ p = 0 ∧ ¬ σ (3 + p) < nI 99) := by
  unfold a_goes
  by_cases h : σ (3 + p) < nI 99
  · exact Or.inl ⟨if_pos h, h⟩
  · exact Or.inr ⟨if_neg h, h⟩
theorem a_strip1_W {T F p : Nat} {g : Int32} {x : a_A × Int32} (hp : p < 8) (h : a_W T F x.1) : a_W T F (a_strip1 g p x).1 := by
  unfold a_strip1
  split
  · obtain ⟨s, hs, e⟩ := h.2.2.2.2.2.2.2.2 p hp
    have h2 : a_W T F (upd x.1 (19 + p) (x.1 (19 + p) + 1)) := a_W_free h (by unfold a_free; omega)
    rcases a_goes_v x.1 p with ⟨g1, g2⟩ | ⟨g1, -⟩
    · show a_W T F (upd _ (3 + p) (x.1 (3 + p) + a_goes x.1 p))
      rw [g1, e, nI_1]
      rw [e] at g2
      exact a_W_Q h2 hp (by have := (nI_ltI (by omega) (by omega)).mp g2; omega)
    · show a_W T F (upd _ (3 + p) (x.1 (3 + p) + a_goes x.1 p))
      rw [g1, e, show nI s + 0 = nI s from Int32.add_zero _]
      exact a_W_Q h2 hp hs
  · exact h
theorem a_stripF_W {T F : Nat} {g : Int32} {σ : a_A} (h : a_W T F σ) : ∀ n, n ≤ 8 → ∀ c, a_W T F (q_fold (a_strip1 g) n (σ, c)).1 := by
  intro n
  induction n with
  | zero => intro _ c; exact h
  | succ n ih => intro hn c; exact a_strip1_W (by omega) (ih (by omega) c)
/-- what a stripping leaves as it was -/
theorem a_stripF_at {g : Int32} {σ : a_A} {j : Nat} (hj : ¬ (3 ≤ j ∧ j < 27)) : ∀ n, n ≤ 8 → ∀ c, (q_fold (a_strip1 g) n (σ, c)).1 j = σ j := by
  intro n
  induction n with
  | zero => intro _ c; rfl
  | succ n ih =>
    intro hn c
    show (a_strip1 g n (q_fold (a_strip1 g) n (σ, c))).1 j = σ j
    unfold a_strip1
    split
    · simp (disch := omega) only [q_upd_ne]; exact ih (by omega) c
    · exact ih (by omega) c
theorem a_strips_at {σ : a_A} {t j : Nat} (hj : ¬ (3 ≤ j ∧ j < 27)) (hj2 : j ≠ 57 + 7 * t + 4) : (a_strips σ t).1 j = σ j := by
  show upd _ _ _ j = _
  rw [q_upd_ne hj2, a_stripF_at hj 8 (Nat.le_refl 8)]
theorem a_strips_W {T F t : Nat} {σ : a_A} (h : a_W T F σ) (hno : ∀ f, f < F → σ (27 + 6 * f + 2) ≠ nI (t + 1)) : a_W T F (a_strips σ t).1 :=
  a_W_how (a_stripF_W h 8 (Nat.le_refl 8) 0) (by omega) (by omega) (fun f hf => by rw [a_stripF_at (by have := h.2.1.2; omega) 8 (Nat.le_refl 8)]; exact hno f hf)
theorem a_upd_comm {σ : a_A} {i j : Nat} {x y : Int32} (h : i ≠ j) : upd (upd σ i x) j y = upd (upd σ j y) i x := by
  funext k
  by_cases h1 : k = i <;> by_cases h2 : k = j <;> simp_all [upd]
theorem a_givesUp_W {T F f t : Nat} {σ : a_A} (h : a_W T F σ) (hf : f < F) (hh : σ (27 + 6 * f + 2) = nI (t + 1)) : a_W T F (a_givesUp σ f t) := by
  have hF := h.2.1.2
  have h1 := a_stripF_W (g := a_good σ t) h 8 (Nat.le_refl 8) 0
  have h2 := a_W_end (x := 3) (t := t) h1 hf (by omega) (by omega) (by rw [a_stripF_at (by omega) 8 (Nat.le_refl 8)]; exact hh)
  have h3 := a_W_free (j := 27 + 6 * f + 4) (v := (a_strips σ t).1 (27 + 6 * f + 4) + 1) h2 (by unfold a_free; omega)
  unfold a_givesUp
  rw [a_upd_comm (by omega)]
  exact h3
theorem a_mask_ok : ∀ m, m < 256 → ∀ p, p < 8 → ∃ r, r < 256 ∧ nI m &&& ((nI 1 <<< (nI p &&& 31)) ^^^ (-1)) = nI r := by
  have key : ∀ m, m < 256 → ∀ p, p < 8 → (nI m &&& ((nI 1 <<< (nI p &&& 31)) ^^^ (-1))).toNatClampNeg < 256 ∧ nI m &&& ((nI 1 <<< (nI p &&& 31)) ^^^ (-1)) = nI (nI m &&& ((nI 1 <<< (nI p &&& 31)) ^^^ (-1))).toNatClampNeg := by decide +kernel
  exact fun m hm p hp => ⟨_, key m hm p hp⟩
theorem a_or_ok : ∀ m, m < 256 → ∀ k, k < 6 → ∃ r, r < 256 ∧ nI m ||| (nI 1 <<< (nI k &&& 31)) = nI r := by
  have key : ∀ m, m < 256 → ∀ k, k < 6 → (nI m ||| (nI 1 <<< (nI k &&& 31))).toNatClampNeg < 256 ∧ nI m ||| (nI 1 <<< (nI k &&& 31)) = nI (nI m ||| (nI 1 <<< (nI k &&& 31))).toNatClampNeg := by decide +kernel
  exact fun m hm k hk => ⟨_, key m hm k hk⟩
theorem a_exch_W {T F t : Nat} {σ : a_A} (h : a_W T F σ) (ht : t < T) (hb : ¬ σ (57 + 7 * t + 1) = 0) : a_W T F (a_exch σ t).1 := by
  obtain ⟨m, hm, e⟩ := h.2.2.2.1 t ht
  have hmz : m ≠ 0 := fun q => hb (by rw [e, q]; rfl)
  have e2 : a_n (σ (57 + 7 * t + 1)) = m := by rw [e]; exact nI_clamp (by omega)
  have hp := (a_low_ok m hm hmz).1
  unfold a_exch
  rw [e2]
  generalize a_low m = p at hp
  dsimp only
  split
  · exact h
  · rename_i h0
    obtain ⟨s, hs, es⟩ := h.2.2.2.2.2.2.2.2 p hp
    have hs0 : s ≠ 0 := fun q => h0 (by rw [es, q]; rfl)
    have e3 : σ (3 + p) - 1 = nI (s - 1) := by rw [es, show (1 : Int32) = nI 1 from rfl, q_nI_sub (by omega)]
    obtain ⟨r, hr, er⟩ := a_mask_ok m hm p hp
    show a_W T F (upd (upd _ _ _) _ _)
    rw [e3, e, er]
    exact a_W_free (a_W_B (a_W_free (a_W_Q h hp (by omega)) (by unfold a_free; omega)) hr) (by unfold a_free; omega)
theorem a_test_W {T F t : Nat} {σ : a_A} {care : Int32} (h : a_W T F σ) (ht : t < T) : a_W T F (a_test σ t care).1 := by
  obtain ⟨m, hm, e⟩ := h.2.2.2.1 t ht
  obtain ⟨k, hk, ek⟩ := h.2.2.1 t ht
  unfold a_test
  dsimp only
  split
  · obtain ⟨r, hr, er⟩ := a_or_ok m hm k hk
    show a_W T F (upd (upd _ _ _) _ _)
    rw [e, ek, er]
    exact a_W_free (a_W_B h hr) (by unfold a_free; omega)
  · exact a_W_free h (by unfold a_free; omega)
theorem a_work1_W {T F f t : Nat} {σ : a_A} (h : a_W T F σ) (ht : t < T) : a_W T F (a_work1 σ f t).1 := by
  unfold a_work1
  split
  · split
    · exact h
    · exact a_test_W h ht
  · rename_i hb
    exact a_exch_W h ht hb
/-- a turn of work leaves kinds, how things are, and who has what -/
theorem a_exch_at {σ : a_A} {t j : Nat} (hj : ¬ (3 ≤ j ∧ j < 19)) (h1 : j ≠ 57 + 7 * t + 1) (h2 : j ≠ 57 + 7 * t + 6) (hp : a_low (a_n (σ (57 + 7 * t + 1))) < 8) : (a_exch σ t).1 j = σ j := by
  unfold a_exch
  generalize a_low (a_n (σ (57 + 7 * t + 1))) = p at hp
  dsimp only
  split
  · rfl
  · simp (disch := omega) only [q_upd_ne]
theorem a_low8 (m : Nat) : a_low m < 8 := by unfold a_low; (repeat' split) <;> omega
theorem a_test_at {σ : a_A} {t j : Nat} {care : Int32} (h1 : j ≠ 57 + 7 * t + 1) (h2 : j ≠ 57 + 7 * t + 3) (h3 : j ≠ 57 + 7 * t + 5) : (a_test σ t care).1 j = σ j := by
  unfold a_test
  dsimp only
  split
  · simp (disch := omega) only [q_upd_ne]
  · simp (disch := omega) only [q_upd_ne]
theorem a_work1_at {σ : a_A} {f t j : Nat} (hj : ¬ (3 ≤ j ∧ j < 19)) (h1 : j ≠ 57 + 7 * t + 1) (h2 : j ≠ 57 + 7 * t + 6) (h3 : j ≠ 57 + 7 * t + 3) (h4 : j ≠ 57 + 7 * t + 5) : (a_work1 σ f t).1 j = σ j := by
  unfold a_work1
  split
  · split
    · rfl
    · exact a_test_at h1 h3 h4
  · exact a_exch_at hj h1 h2 (a_low8 _)
theorem a_works_W {T F f : Nat} {σ : a_A} (h : a_W T F σ) (hf : f < F) (hp : 0 < σ (27 + 6 * f + 2)) : a_W T F (a_works σ f) := by
  have hF := h.2.1.2
  obtain ⟨x, hx, ex, -⟩ := h.2.2.2.2.2.2.1 f hf
  have hT := h.1.2
  have hx0 : x ≠ 0 := by
    intro q
    rw [ex, q] at hp
    exact absurd hp (by decide)
  obtain ⟨t, rfl⟩ : ∃ t, x = t + 1 := ⟨x - 1, by omega⟩
  have et : a_n (σ (27 + 6 * f + 2)) - 1 = t := by rw [ex]; unfold a_n; rw [nI_clamp (by omega)]; omega
  unfold a_works
  dsimp only
  rw [et]
  have h1 : a_W T F (upd σ (27 + 6 * f + 5) (σ (27 + 6 * f + 5) + 1)) := a_W_free h (by unfold a_free; omega)
  have h2 := a_work1_W (f := f) (t := t) h1 (by omega)
  have e2 : (a_work1 (upd σ (27 + 6 * f + 5) (σ (27 + 6 * f + 5) + 1)) f t).1 (27 + 6 * f + 2) = nI (t + 1) := by
    rw [a_work1_at (by omega) (by omega) (by omega) (by omega) (by omega), q_upd_ne (by omega), ex]
  generalize a_work1 (upd σ (27 + 6 * f + 5) (σ (27 + 6 * f + 5) + 1)) f t = r at h2 e2
  split
  · exact a_givesUp_W h2 hf e2
  · split
    · have h3 := a_W_free (j := 27 + 6 * f + 3) (v := upd r.1 (57 + 7 * t + 4) (nI 2) (27 + 6 * f + 3) + 1) (a_W_end (x := 2) (t := t) h2 hf (by omega) (by omega) e2) (by unfold a_free; omega)
      rw [a_upd_comm (by omega)]
      exact h3
    · exact h2
theorem a_has_pos {T F f : Nat} {σ : a_A} (h : a_W T F σ) (hf : f < F) (hp : 0 < σ (27 + 6 * f + 2)) : ∃ t, t < 30 ∧ σ (27 + 6 * f + 2) = nI (t + 1) := by
  obtain ⟨x, hx, ex, -⟩ := h.2.2.2.2.2.2.1 f hf
  have hT := h.1.2
  have hx0 : x ≠ 0 := by
    intro q
    rw [ex, q] at hp
    exact absurd hp (by decide)
  exact ⟨x - 1, by omega, by rw [ex]; congr 1; omega⟩
theorem a_next_in {T F : Nat} {σ : a_A} (h : a_W T F σ) (kinds : Int32) : a_next σ kinds = -6 ∨ ∃ j, j < T ∧ a_next σ kinds = nI j ∧ σ (57 + 7 * j + 4) = 0 := by
  have key : ∀ n, n ≤ T → q_fold (a_next1 σ kinds) n (-6) = -6 ∨ ∃ j, j < T ∧ q_fold (a_next1 σ kinds) n (-6) = nI j ∧ σ (57 + 7 * j + 4) = 0 := by
    intro n
    induction n with
    | zero => intro _; exact Or.inl rfl
    | succ n ih =>
      intro hn
      show a_next1 σ kinds n (q_fold (a_next1 σ kinds) n (-6)) = -6 ∨ ∃ j, j < T ∧ a_next1 σ kinds n (q_fold (a_next1 σ kinds) n (-6)) = nI j ∧ _
      generalize hb : q_fold (a_next1 σ kinds) n (-6) = b at ih
      unfold a_next1
      split
      · rename_i hc
        exact Or.inr ⟨n, by omega, rfl, hc.1.1⟩
      · exact ih (by omega)
  unfold a_next
  rw [a_W_T h]
  exact key T (Nat.le_refl T)
theorem a_nI_ne6 {j : Nat} (hj : j < 2 ^ 31) : ¬ nI j = -6 := by
  intro q
  have := nI_pos hj
  rw [q] at this
  exact this (by decide)
theorem a_takes_W {T F f : Nat} {σ : a_A} (h : a_W T F σ) (hf : f < F) : a_W T F (a_takes σ f) := by
  unfold a_takes
  dsimp only
  split
  · exact h
  · rename_i h6
    rcases a_next_in h (σ (27 + 6 * f)) with q | ⟨j, hj, e, hw⟩
    · exact absurd q h6
    · have hT := h.1.2
      rw [e]
      have e2 : a_n (nI j) = j := nI_clamp (by omega)
      rw [e2, nI_1]
      exact a_W_take h hf hj hw
theorem a_min1_W {T F f : Nat} {σ : a_A} (hf : f < F) (h : a_W T F σ) : a_W T F (a_min1 f σ) := by
  unfold a_min1
  split
  · exact a_takes_W h hf
  · exact h
theorem a_min2_W {T F f : Nat} {σ : a_A} (hf : f < F) (h : a_W T F σ) : a_W T F (a_min2 f σ) := by
  unfold a_min2
  split
  · rename_i hp
    exact a_works_W h hf hp
  · exact h
theorem a_min3_W {T F t : Nat} {σ : a_A} (ht : t < T) (h : a_W T F σ) : a_W T F (a_min3 t σ) := by
  unfold a_min3
  split
  · rename_i hw
    have hT := h.1.2
    obtain ⟨p, hp1, hp2, ep⟩ := h.2.2.2.2.2.1 t ht hw
    have e1 : σ (57 + 7 * t + 2) - 1 = nI (p - 1) := by rw [ep, show (1 : Int32) = nI 1 from rfl, q_nI_sub (by omega)]
    rw [e1]
    obtain ⟨⟨h1, h1'⟩, ⟨h2, h2'⟩, h3, h4, h5, h6, h7, h8, h9⟩ := h
    have hno : ∀ f, f < F → ∀ x, σ (27 + 6 * f + 2) = nI x → (∀ i, x = i + 1 → σ (57 + 7 * i + 4) = nI 1) → ∀ i, x = i + 1 → i ≠ t := by
      intro f hf x _ c i hi q
      subst q
      have := c i hi
      rw [hw] at this
      exact absurd this (by decide)
    refine ⟨⟨by simp (disch := omega) only [q_upd_ne]; exact h1, h1'⟩, ⟨by simp (disch := omega) only [q_upd_ne]; exact h2, h2'⟩, fun i hi => by simp (disch := omega) only [q_upd_ne]; exact h3 i hi, fun i hi => by simp (disch := omega) only [q_upd_ne]; exact h4 i hi, fun i hi => ?_, fun i hi => ?_, fun f hf => ?_, fun f g hf hg => by simp (disch := omega) only [q_upd_ne]; exact h8 f g hf hg, fun q hq => by simp (disch := omega) only [q_upd_ne]; exact h9 q hq⟩
    · by_cases e : i = t
      · subst e
        rw [q_upd_at]
        split
        · exact ⟨4, by omega, rfl⟩
        · exact ⟨0, by omega, rfl⟩
      · rw [q_upd_ne (by omega), q_upd_ne (by omega)]; exact h5 i hi
    · by_cases e : i = t
      · subst e
        rw [q_upd_at, q_upd_ne (by omega), q_upd_at]
        split
        · exact fun q => absurd q (by decide)
        · rename_i hz
          intro _
          exact ⟨p - 1, by
            rcases Nat.eq_zero_or_pos (p - 1) with z | z
            · exact absurd (by rw [z]; rfl) hz
            · omega, by omega, rfl⟩
      · simp (disch := omega) only [q_upd_ne]; exact h6 i hi
    · obtain ⟨x, a, b, c⟩ := h7 f hf
      refine ⟨x, a, by simp (disch := omega) only [q_upd_ne]; exact b, fun i hi => ?_⟩
      have := hno f hf x b c i hi
      simp (disch := omega) only [q_upd_ne]; exact c i hi
  · exact h
theorem a_minute_W {T F : Nat} {σ : a_A} (h : a_W T F σ) : a_W T F (a_minute σ) := by
  unfold a_minute
  dsimp only
  rw [a_W_F h]
  have h1 := a_fold_W (f := a_min1) (N := F) (fun i s hi hs => a_min1_W hi hs) F σ (Nat.le_refl F) h
  have h2 := a_fold_W (f := a_min2) (N := F) (fun i s hi hs => a_min2_W hi hs) F _ (Nat.le_refl F) h1
  rw [a_W_T h]
  have h3 := a_fold_W (f := a_min3) (N := T) (fun i s hi hs => a_min3_W hi hs) T _ (Nat.le_refl T) h2
  exact a_W_free h3 (by unfold a_free; omega)
theorem a_minutes_W {T F : Nat} {σ : a_A} (h : a_W T F σ) : ∀ n, a_W T F (a_minutes n σ) := by
  intro n
  induction n with
  | zero => exact h
  | succ n ih => exact a_minute_W ih
