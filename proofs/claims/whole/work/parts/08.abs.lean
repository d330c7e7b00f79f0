/-! what a state IS: the reference's row of numbers. Its steps, as functions -/
abbrev a_A : Type := Nat → Int32
def a_n (x : Int32) : Nat := x.toNatClampNeg
def a_T (σ : a_A) : Nat := a_n (σ 1)
def a_F (σ : a_A) : Nat := a_n (σ 2)
/-- the parts of a kind, as a mask -/
def a_pm : Nat → Nat
  | 0 => 7
  | 1 => 14
  | 2 => 28
  | 3 => 56
  | 4 => 112
  | _ => 224
def a_bit (m i : Nat) : Nat := m / 2 ^ i % 2
def a_low (m : Nat) : Nat := if a_bit m 0 = 1 then 0 else if a_bit m 1 = 1 then 1 else if a_bit m 2 = 1 then 2 else if a_bit m 3 = 1 then 3 else if a_bit m 4 = 1 then 4 else if a_bit m 5 = 1 then 5 else if a_bit m 6 = 1 then 6 else 7
theorem a_bit_i : ∀ m, m < 256 → ∀ i, i < 8 → (nI m >>> (nI i &&& 31)) &&& nI 1 = nI (a_bit m i) := by decide +kernel
theorem a_low_ok : ∀ m, m < 256 → m ≠ 0 → a_low m < 8 ∧ a_bit m (a_low m) = 1 ∧ ∀ j, j < a_low m → a_bit m j = 0 := by decide +kernel
theorem a_pm_i : ∀ k, k < 6 → ((nI 1 <<< (nI k &&& 31)) ||| (nI 1 <<< (((nI k + nI 1) - (nI k + nI 1) / nI 8 * nI 8) &&& 31))) ||| (nI 1 <<< (((nI k + nI 2) - (nI k + nI 2) / nI 8 * nI 8) &&& 31)) = nI (a_pm k) := by decide +kernel
def a_good (σ : a_A) (i : Nat) : Int32 := nI (a_pm (a_n (σ (57 + 7 * i)))) &&& (σ (57 + 7 * i + 1) ^^^ (-1))
def a_goes (σ : a_A) (p : Nat) : Int32 := if σ (3 + p) < nI 99 then 1 else 0
def a_strip1 (g : Int32) (p : Nat) (x : a_A × Int32) : a_A × Int32 :=
  if (g >>> (nI p &&& 31)) &&& nI 1 = nI 1 then (upd (upd x.1 (19 + p) (x.1 (19 + p) + 1)) (3 + p) (x.1 (3 + p) + a_goes x.1 p), x.2 + a_goes x.1 p) else x
def a_strips (σ : a_A) (i : Nat) : a_A × Int32 :=
  let r := q_fold (a_strip1 (a_good σ i)) 8 (σ, 0)
  (upd r.1 (57 + 7 * i + 4) (nI 3), r.2)
def a_isNext (σ : a_A) (kinds : Int32) (i : Nat) : Prop := σ (57 + 7 * i + 4) = 0 ∧ (kinds >>> (σ (57 + 7 * i) &&& 31)) &&& nI 1 = nI 1
def a_next1 (σ : a_A) (kinds : Int32) (i : Nat) (b : Int32) : Int32 :=
  if (σ (57 + 7 * i + 4) = 0 ∧ (kinds >>> (σ (57 + 7 * i) &&& 31)) &&& nI 1 = nI 1) ∧ (b = -6 ∨ σ (57 + 7 * i + 2) < σ (57 + 7 * a_n b + 2)) then nI i else b
def a_next (σ : a_A) (kinds : Int32) : Int32 := q_fold (a_next1 σ kinds) (a_T σ) (-6)
def a_first (P : Nat → Bool) : Nat → Nat → Int32
  | 0, _ => -6
  | n + 1, i => if P i = true then nI i else a_first P n (i + 1)
def a_fixerOf (σ : a_A) (x : Int32) : Int32 := a_first (fun f => decide (σ (27 + 6 * f + 2) = x + 1)) (a_F σ) 0
def a_givesUp (σ : a_A) (f i : Nat) : a_A :=
  let r := (a_strips σ i).1
  upd (upd r (27 + 6 * f + 4) (r (27 + 6 * f + 4) + 1)) (27 + 6 * f + 2) 0
def a_exch (σ : a_A) (i : Nat) : a_A × Int32 :=
  let p := a_low (a_n (σ (57 + 7 * i + 1)))
  if σ (3 + p) = 0 then (σ, 0) else
    let r := upd (upd σ (3 + p) (σ (3 + p) - 1)) (11 + p) (σ (11 + p) + 1)
    (upd (upd r (57 + 7 * i + 1) (σ (57 + 7 * i + 1) &&& ((nI 1 <<< (nI p &&& 31)) ^^^ (-1)))) (57 + 7 * i + 6) (σ (57 + 7 * i + 6) + 1), 1)
def a_test (σ : a_A) (i : Nat) (care : Int32) : a_A × Int32 :=
  let x := (σ 0 + care) + σ (57 + 7 * i)
  if x - x / nI 3 * nI 3 = 0 then
    (upd (upd σ (57 + 7 * i + 1) (σ (57 + 7 * i + 1) ||| (nI 1 <<< (σ (57 + 7 * i) &&& 31)))) (57 + 7 * i + 5) (σ (57 + 7 * i + 5) + 1), if σ (57 + 7 * i + 5) + 1 < nI 3 then 1 else 0)
  else (upd σ (57 + 7 * i + 3) (σ (57 + 7 * i + 3) &&& (σ (57 + 7 * i + 3) - 1)), 1)
def a_work1 (σ : a_A) (f i : Nat) : a_A × Int32 :=
  if σ (57 + 7 * i + 1) = 0 then (if σ (57 + 7 * i + 3) = 0 then (σ, 1) else a_test σ i (σ (27 + 6 * f + 1))) else a_exch σ i
def a_works (σ : a_A) (f : Nat) : a_A :=
  let i := a_n (σ (27 + 6 * f + 2)) - 1
  let s1 := upd σ (27 + 6 * f + 5) (σ (27 + 6 * f + 5) + 1)
  let r := a_work1 s1 f i
  if r.2 = 0 then a_givesUp r.1 f i
  else if r.1 (57 + 7 * i + 1) = 0 ∧ r.1 (57 + 7 * i + 3) = 0 then
    let s2 := upd r.1 (57 + 7 * i + 4) (nI 2)
    upd (upd s2 (27 + 6 * f + 3) (s2 (27 + 6 * f + 3) + 1)) (27 + 6 * f + 2) 0
  else r.1
def a_takes (σ : a_A) (f : Nat) : a_A :=
  let b := a_next σ (σ (27 + 6 * f))
  if b = -6 then σ else upd (upd σ (57 + 7 * a_n b + 4) (nI 1)) (27 + 6 * f + 2) (b + 1)
def a_min1 (f : Nat) (σ : a_A) : a_A := if σ (27 + 6 * f + 2) = 0 then a_takes σ f else σ
def a_min2 (f : Nat) (σ : a_A) : a_A := if 0 < σ (27 + 6 * f + 2) then a_works σ f else σ
def a_min3 (i : Nat) (σ : a_A) : a_A :=
  if σ (57 + 7 * i + 4) = 0 then upd (upd σ (57 + 7 * i + 2) (σ (57 + 7 * i + 2) - 1)) (57 + 7 * i + 4) (if σ (57 + 7 * i + 2) - 1 = 0 then nI 4 else 0) else σ
def a_minute (σ : a_A) : a_A :=
  let s1 := q_fold a_min1 (a_F σ) σ
  let s2 := q_fold a_min2 (a_F σ) s1
  let s3 := q_fold a_min3 (a_T σ) s2
  upd s3 0 (s3 0 + 1)
def a_how (σ : a_A) (h : Int32) : Int32 := q_fold (fun i (n : Int32) => n + (if σ (57 + 7 * i + 4) = h then 1 else 0)) (a_T σ) 0
def a_minutes (n : Nat) (σ : a_A) : a_A := q_fold (fun _ s => a_minute s) n σ
def a_comes (σ : a_A) (k b p t : Int32) : a_A :=
  let i := a_T σ
  upd (upd (upd (upd (upd (upd (upd (upd σ 1 (σ 1 + 1)) (57 + 7 * i) k) (57 + 7 * i + 1) b) (57 + 7 * i + 2) p) (57 + 7 * i + 3) t) (57 + 7 * i + 4) 0) (57 + 7 * i + 5) 0) (57 + 7 * i + 6) 0
def a_comesF (σ : a_A) (k c : Int32) : a_A :=
  let f := a_F σ
  let z := q_fold (fun j (s : a_A) => upd s (27 + 6 * f + j) 0) 6 σ
  let w := upd (upd z (27 + 6 * f) k) (27 + 6 * f + 1) c
  upd w 2 (w 2 + 1)
def a_place (σ : a_A) (t : Nat) : Int32 :=
  if σ (57 + 7 * t + 4) = 0 then q_fold (fun i (n : Int32) => n + (if σ (57 + 7 * i + 4) = 0 ∧ (0 < σ (57 + 7 * t + 2) - σ (57 + 7 * i + 2) ∨ (σ (57 + 7 * t + 2) - σ (57 + 7 * i + 2) = 0 ∧ i < t)) then 1 else 0)) (a_T σ) 0 else -6
def a_broken (σ : a_A) (p : Int32) : Int32 := q_fold (fun i (n : Int32) => n + (if σ (57 + 7 * i + 4) < nI 2 then (σ (57 + 7 * i + 1) >>> (p &&& 31)) &&& nI 1 else 0)) (a_T σ) 0
/-! numbers that a call refuses -/
def a_refT (σ : a_A) (k b p t : Int32) : Int32 :=
  if ¬ (nI 0 ≤ k ∧ k ≤ nI 5) then -1 else if (b &&& (nI (a_pm (a_n k)) ^^^ (-1)) ≠ 0 ∨ ¬ (nI 1 ≤ p ∧ p ≤ nI 99)) ∨ ¬ (nI 0 ≤ t ∧ t ≤ nI 7) then -2 else if σ 1 = nI 30 then -4 else 0
def a_refF (σ : a_A) (k c : Int32) : Int32 := if ¬ (nI 1 ≤ k ∧ k ≤ nI 63) ∨ ¬ (nI 0 ≤ c ∧ c ≤ nI 9) then -2 else if σ 2 = nI 5 then -4 else 0
def a_refD (p m : Int32) : Int32 := if ¬ (nI 0 ≤ p ∧ p ≤ nI 7) then -1 else if nI 0 ≤ m ∧ m ≤ nI 99 then 0 else -2
def a_refP (σ : a_A) (m : Int32) : Int32 := if ¬ (nI 1 ≤ m ∧ m ≤ nI 99) then -2 else if nI 9999 < σ 0 + m then -5 else 0
def a_scar1 (σ : a_A) (p : Nat) (x : Int32 × Int32) : Int32 × Int32 :=
  (if x.2 < a_broken σ (nI p) - σ (3 + p) then nI p else x.1, if x.2 < a_broken σ (nI p) - σ (3 + p) then a_broken σ (nI p) - σ (3 + p) else x.2)
def a_scar (σ : a_A) : Int32 := (q_fold (a_scar1 σ) 8 (-6, 0)).1
theorem a_in06 {k a b : Int32} {n : Nat} (ha : a = nI 0) (hb : b = nI n) (hn : n < 2 ^ 31) (h : a ≤ k ∧ k ≤ b) : ∃ j, j ≤ n ∧ k = nI j := by
  subst ha; subst hb
  refine nI_of2 (M := nI n) (nI_toInt hn) ?_ h.2
  rw [← nI_0]
  exact Int32.not_lt.mpr h.1
/-! what holds of every state -/
def a_wf (σ : a_A) : Prop :=
  (σ 1 = nI (a_T σ) ∧ a_T σ ≤ 30) ∧ (σ 2 = nI (a_F σ) ∧ a_F σ ≤ 5) ∧
  (∀ i, i < a_T σ → ∃ k, k < 6 ∧ σ (57 + 7 * i) = nI k) ∧
  (∀ i, i < a_T σ → ∃ m, m < 256 ∧ σ (57 + 7 * i + 1) = nI m) ∧
  (∀ i, i < a_T σ → ∃ h, h ≤ 4 ∧ σ (57 + 7 * i + 4) = nI h) ∧
  (∀ i, i < a_T σ → σ (57 + 7 * i + 4) = 0 → ∃ p, 1 ≤ p ∧ p ≤ 99 ∧ σ (57 + 7 * i + 2) = nI p) ∧
  (∀ f, f < a_F σ → ∃ h, h ≤ a_T σ ∧ σ (27 + 6 * f + 2) = nI h ∧ ∀ i, h = i + 1 → σ (57 + 7 * i + 4) = nI 1) ∧
  (∀ f g, f < a_F σ → g < a_F σ → σ (27 + 6 * f + 2) = σ (27 + 6 * g + 2) → σ (27 + 6 * f + 2) ≠ 0 → f = g) ∧
  (∀ p, p < 8 → ∃ s, s ≤ 99 ∧ σ (3 + p) = nI s)
