/-! what comes new, kept well; the calls' answers as functions -/
theorem a_comes_W {T F k m p : Nat} {t : Int32} {σ : a_A} (h : a_W T F σ) (hT : T < 30) (hk : k < 6) (hm : m < 256) (hp1 : 1 ≤ p) (hp2 : p ≤ 99) : a_W (T + 1) F (a_comes σ (nI k) (nI m) (nI p) t) := by
  have haT := a_W_T h
  obtain ⟨⟨h1, h1'⟩, ⟨h2, h2'⟩, h3, h4, h5, h6, h7, h8, h9⟩ := h
  unfold a_comes
  dsimp only
  rw [haT]
  refine ⟨⟨by simp (disch := omega) only [q_upd_ne, q_upd_at]; rw [h1, nI_1], by omega⟩, ⟨by simp (disch := omega) only [q_upd_ne]; exact h2, h2'⟩, fun i hi => ?_, fun i hi => ?_, fun i hi => ?_, fun i hi => ?_, fun f hf => ?_, fun f g hf hg => by simp (disch := omega) only [q_upd_ne]; exact h8 f g hf hg, fun q hq => by simp (disch := omega) only [q_upd_ne]; exact h9 q hq⟩
  · by_cases e : i = T
    · subst e; exact ⟨k, hk, by simp (disch := omega) only [q_upd_ne, q_upd_at]⟩
    · simp (disch := omega) only [q_upd_ne]; exact h3 i (by omega)
  · by_cases e : i = T
    · subst e; exact ⟨m, hm, by simp (disch := omega) only [q_upd_ne, q_upd_at]⟩
    · simp (disch := omega) only [q_upd_ne]; exact h4 i (by omega)
  · by_cases e : i = T
    · subst e; exact ⟨0, by omega, by simp (disch := omega) only [q_upd_ne, q_upd_at]; rfl⟩
    · simp (disch := omega) only [q_upd_ne]; exact h5 i (by omega)
  · by_cases e : i = T
    · subst e; intro _; exact ⟨p, hp1, hp2, by simp (disch := omega) only [q_upd_ne, q_upd_at]⟩
    · simp (disch := omega) only [q_upd_ne]; exact h6 i (by omega)
  · obtain ⟨x, a, b, c⟩ := h7 f hf
    refine ⟨x, by omega, by simp (disch := omega) only [q_upd_ne]; exact b, fun i hi => ?_⟩
    simp (disch := omega) only [q_upd_ne]; exact c i hi
theorem a_fold6 {σ : a_A} {b j : Nat} (hj : ¬ (b ≤ j ∧ j < b + 6)) : q_fold (fun x (s : a_A) => upd s (b + x) 0) 6 σ j = σ j := by
  simp (disch := omega) only [q_fold, q_upd_ne]
theorem a_comesF_W {T F : Nat} {k c : Int32} {σ : a_A} (h : a_W T F σ) (hF : F < 5) : a_W T (F + 1) (a_comesF σ k c) := by
  have haF := a_W_F h
  obtain ⟨⟨h1, h1'⟩, ⟨h2, h2'⟩, h3, h4, h5, h6, h7, h8, h9⟩ := h
  have hz : ∀ j, ¬ (27 + 6 * F ≤ j ∧ j < 27 + 6 * F + 6) → j ≠ 2 → a_comesF σ k c j = σ j := by
    intro j hj hj2
    unfold a_comesF
    try dsimp only
    rw [haF]
    simp (disch := omega) only [q_upd_ne]
    exact a_fold6 hj
  have hz2 : a_comesF σ k c 2 = nI (F + 1) := by
    unfold a_comesF
    try dsimp only
    rw [haF, q_upd_at]
    simp (disch := omega) only [q_upd_ne]
    rw [a_fold6 (by omega), h2, nI_1]
  have hz3 : a_comesF σ k c (27 + 6 * F + 2) = 0 := by
    unfold a_comesF
    try dsimp only
    rw [haF]
    simp (disch := omega) only [q_upd_ne, q_fold, q_upd_at]
  refine ⟨⟨by rw [hz _ (by omega) (by omega)]; exact h1, h1'⟩, ⟨hz2, by omega⟩, fun i hi => by rw [hz _ (by omega) (by omega)]; exact h3 i hi, fun i hi => by rw [hz _ (by omega) (by omega)]; exact h4 i hi, fun i hi => by rw [hz _ (by omega) (by omega)]; exact h5 i hi, fun i hi => by rw [hz _ (by omega) (by omega), hz _ (by omega) (by omega)]; exact h6 i hi, fun f hf => ?_, fun f g hf hg => ?_, fun q hq => by rw [hz _ (by omega) (by omega)]; exact h9 q hq⟩
  · by_cases e : f = F
    · subst e; exact ⟨0, by omega, hz3, fun i hi => by omega⟩
    · obtain ⟨x, a, b, c⟩ := h7 f (by omega)
      refine ⟨x, a, by rw [hz _ (by omega) (by omega)]; exact b, fun i hi => ?_⟩
      rw [hz _ (by omega) (by omega)]; exact c i hi
  · by_cases e : f = F
    · subst e; rw [hz3]; exact fun _ q => absurd rfl q
    · by_cases e2 : g = F
      · subst e2; rw [hz3]; exact fun q z => absurd q z
      · rw [hz _ (by omega) (by omega), hz _ (by omega) (by omega)]; exact h8 f g (by omega) (by omega)
theorem a_isT_iff {T : Nat} {t : Int32} (hT : T ≤ 30) : (nI 0 ≤ t ∧ t ≤ nI T - nI 1) ↔ (nI 0 ≤ t ∧ t < nI T) := by
  rcases Nat.eq_zero_or_pos T with z | z
  · subst z
    constructor
    · intro ⟨h1, h2⟩
      exact absurd (Int32.le_trans h1 h2) (by decide)
    · intro ⟨h1, h2⟩
      exact absurd h2 (Int32.not_lt.mpr h1)
  · rw [q_nI_sub (by omega)]
    have e1 : (nI (T - 1)).toInt = ((T - 1 : Nat) : Int) := nI_toInt (by omega)
    have e2 : (nI T).toInt = (T : Int) := nI_toInt (by omega)
    rw [Int32.le_iff_toInt_le (x := t) (y := nI (T - 1)), Int32.lt_iff_toInt_lt, e1, e2]
    constructor <;> intro ⟨h1, h2⟩ <;> exact ⟨h1, by omega⟩
theorem a_isT_ex {T : Nat} {t : Int32} (hT : T ≤ 30) (h : nI 0 ≤ t ∧ t < nI T) : ∃ j, j < T ∧ t = nI j := by
  obtain ⟨j, hj, rfl⟩ := nI_of (x := t) (by rw [← nI_0]; exact Int32.not_lt.mpr h.1)
  exact ⟨j, (nI_ltI hj (by omega)).mp h.2, rfl⟩
theorem a_tout {w : Int32} {lo hi : Nat} (h : ∀ j, lo ≤ j → j ≤ hi → w ≠ nI j) (hh : hi < 2 ^ 31) : w.toInt < (lo : Int) ∨ (hi : Int) < w.toInt := by
  by_cases h1 : w.toInt < (lo : Int)
  · exact Or.inl h1
  · by_cases h2 : (hi : Int) < w.toInt
    · exact Or.inr h2
    · exfalso
      refine h w.toInt.toNat (by omega) (by omega) (Int32.toInt_inj.mp ?_)
      rw [nI_toInt (by omega)]
      omega
theorem a_toInt_ne {w : Int32} {j : Nat} (hj : j < 2 ^ 31) (h : w ≠ nI j) : w.toInt ≠ (j : Int) := fun q => h (Int32.toInt_inj.mp (by rw [nI_toInt hj]; exact q))
/-! what the reference answers -/
def a_recS (U σ : a_A) (u : Nat) : a_A := fun k => if 267 * u ≤ k ∧ k < 267 * u + 267 then σ (k - 267 * u) else U k
def a_sh (n : Nat) (U : a_A) : a_A := fun k => if k < n then U (k + 267) else U k
def a_recU (U σ : a_A) (u : Nat) : a_A := if u = 6 then a_recS (a_sh 1335 U) σ 5 else a_recS U σ u
def a_recN (u : Nat) : Nat := if u = 6 then 6 else u + 1
/-- one more state in the history -/
def a_rec (I : q_Mem) (o : Nat) (σ : a_A) : q_Mem := q_setA (q_setA I (o + 3) (a_recU (I (o + 3)) σ (a_n (I o 4)))) o (upd (I o) 4 (nI (a_recN (a_n (I o 4)))))
def a_ofThing (σ : a_A) (t w : Int32) : Int32 :=
  if ¬ (nI 0 ≤ t ∧ t < σ 1) then -1 else if w = nI 5 then a_fixerOf σ t else if w = nI 6 then σ (57 + 7 * a_n t + 5) else if w = nI 7 then σ (57 + 7 * a_n t + 6) else if w = nI 8 then a_place σ (a_n t) else if nI 0 ≤ w ∧ w ≤ nI 4 then σ (57 + 7 * a_n t + a_n w) else -2
def a_ofFixer (σ : a_A) (f w : Int32) : Int32 :=
  if ¬ (nI 0 ≤ f ∧ f < σ 2) then -1 else if w = nI 2 then (if σ (27 + 6 * a_n f + 2) = 0 then -6 else σ (27 + 6 * a_n f + 2) - 1) else if w = nI 6 then a_next σ (σ (27 + 6 * a_n f)) else if nI 0 ≤ w ∧ w ≤ nI 5 then σ (27 + 6 * a_n f + a_n w) else -2
def a_ofPart (σ : a_A) (p w : Int32) : Int32 :=
  if ¬ (nI 0 ≤ p ∧ p ≤ nI 7) then -1 else if w = nI 0 then σ (3 + a_n p) else if w = nI 1 then a_broken σ p else if w = nI 2 then σ (11 + a_n p) else if w = nI 3 then σ (19 + a_n p) else -2
def a_count (ob σ : a_A) (w : Int32) : Int32 :=
  if w = nI 8 then ob 8 else if w = nI 9 then ob 4 else if nI 0 ≤ w ∧ w ≤ nI 2 then σ (a_n w) else if nI 3 ≤ w ∧ w ≤ nI 7 then a_how σ (w - nI 3) else -2
def a_doneL (t : Nat) : Nat → Nat → a_A → Nat
  | 0, n, _ => n
  | k + 1, n, σ => if σ (57 + 7 * t + 4) < nI 2 then a_doneL t k (n + 1) (a_minute σ) else n
def a_doneIn (σ : a_A) (t : Int32) : Int32 :=
  if ¬ (nI 0 ≤ t ∧ t < σ 1) then -1 else let n := a_doneL (a_n t) 501 0 σ
  if 500 < n then -6 else nI n
def a_repW (σ : a_A) (k c : Int32) (n : Nat) : Int32 := a_how (a_minutes n (a_comesF σ k c)) (nI 2) - a_how (a_comesF σ k c) (nI 2)
def a_withF (σ : a_A) (k c m : Int32) : Int32 :=
  if a_refF σ k c = -2 ∨ ¬ (nI 1 ≤ m ∧ m ≤ nI 300) then -2 else if a_refF σ k c = 0 then a_repW σ k c (a_n m) else a_refF σ k c
def a_best1 (σ : a_A) (n : Nat) (j : Nat) (x : Int32 × Int32) : Int32 × Int32 :=
  (if x.2 < a_repW σ (nI 63) (nI (j + 1)) n then nI (j + 1) else x.1, if x.2 < a_repW σ (nI 63) (nI (j + 1)) n then a_repW σ (nI 63) (nI (j + 1)) n else x.2)
def a_best (σ : a_A) (m : Int32) : Int32 :=
  if ¬ (nI 1 ≤ m ∧ m ≤ nI 300) then -2 else if σ 2 = nI 5 then -4 else (q_fold (a_best1 σ (a_n m)) 9 (0, a_repW σ (nI 63) 0 (a_n m))).1
theorem a_doneL_le (t : Nat) : ∀ k n σ, a_doneL t k n σ ≤ n + k := by
  intro k
  induction k with
  | zero => intro n σ; exact Nat.le_refl n
  | succ k ih =>
    intro n σ
    unfold a_doneL
    split
    · have := ih (n + 1) (a_minute σ); omega
    · omega
