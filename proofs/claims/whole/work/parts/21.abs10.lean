theorem p_ok_lt {P : a_A} {len m a : Nat} {u : Bool} (hm : m ≤ 9) (h : p_ok P len m a u = true) : a < len ∧ u = true := by
  unfold p_ok at h
  rw [Bool.and_eq_true] at h
  refine ⟨?_, h.1⟩
  rcases Nat.lt_or_ge a len with q | q
  · exact q
  · have : p_s P len a = 0 := if_neg (by omega)
    rw [this, p_in_0 m hm] at h
    cases h.2
theorem p_T_lt {P : a_A} {len a : Nat} {c : Int32} {u : Bool} (hc : ¬ (0 : Int32) = c) (h : p_T P len c a u = true) : a < len ∧ u = true := by
  unfold p_T at h
  rw [Bool.and_eq_true, decide_eq_true_eq] at h
  refine ⟨?_, h.1⟩
  rcases Nat.lt_or_ge a len with q | q
  · exact q
  · have : p_s P len a = 0 := if_neg (by omega)
    rw [this] at h
    exact absurd h.2 hc
theorem pN_lt {b : Bool} {a len : Nat} (ha : a ≤ len) (h : b = true → a < len) : pN b a ≤ len := by
  unfold pN
  split
  · rename_i q; exact h q
  · exact ha
theorem p_digs_le {P : a_A} {len m a : Nat} {u : Bool} (hm : m ≤ 9) (ha : a ≤ len) : (p_digs P len m a u).2.1 ≤ len := by
  unfold p_digs
  split
  · rename_i h
    exact p_dl_le P len m hm 80 _ _ (p_ok_lt hm h).1
  · exact ha
theorem p_num_le {P : a_A} {len a : Nat} {u : Bool} (ha : a ≤ len) : (p_num P len a u).2.1 ≤ len := by
  unfold p_num
  split
  · rename_i h
    have h1 := (p_ok_lt (by decide) h).1
    split
    · rename_i h2
      have := (p_ok_lt (u := true) (m := 9) (by decide) (by unfold p_ok; rw [h2.2]; rfl)).1
      exact this
    · exact h1
  · exact ha
theorem p_let_lt {P : a_A} {len a : Nat} (h : p_let (p_s P len a) = true) : a < len := by
  rcases Nat.lt_or_ge a len with q | q
  · exact q
  · have : p_s P len a = 0 := if_neg (by omega)
    rw [this] at h
    exact absurd h (by decide +kernel)
theorem p_dl_ge (P : a_A) (len m : Nat) : ∀ k a s, a ≤ (p_dl P len m k a s).1 := by
  intro k
  induction k with
  | zero => intro a s; exact Nat.le_refl a
  | succ k ih =>
    intro a s
    unfold p_dl
    split
    · have := ih (a + 1) (s ||| (nI 1 <<< (p_dv P len a &&& 31))); omega
    · exact Nat.le_refl a
theorem p_digs_adv {P : a_A} {len m a : Nat} {u : Bool} (h : (p_digs P len m a u).2.2 = true) : a + 1 ≤ (p_digs P len m a u).2.1 ∧ u = true := by
  unfold p_digs at h ⊢
  by_cases hk : p_ok P len m a u = true
  · rw [if_pos hk]
    refine ⟨p_dl_ge P len m 80 _ _, ?_⟩
    unfold p_ok at hk
    rw [Bool.and_eq_true] at hk
    exact hk.1
  · rw [if_neg hk] at h
    cases h
theorem p_num_adv {P : a_A} {len a : Nat} {u : Bool} (h : (p_num P len a u).2.2 = true) : a + 1 ≤ (p_num P len a u).2.1 ∧ u = true := by
  unfold p_num at h ⊢
  by_cases hk : p_ok P len 9 a u = true
  · rw [if_pos hk]
    have hu : u = true := by
      unfold p_ok at hk
      rw [Bool.and_eq_true] at hk
      exact hk.1
    split
    · exact ⟨by show a + 1 ≤ a + 2; omega, hu⟩
    · exact ⟨Nat.le_refl _, hu⟩
  · rw [if_neg hk] at h
    cases h
theorem p_ok_u {P : a_A} {len m a : Nat} {u : Bool} (h : p_ok P len m a u = true) : u = true := by
  unfold p_ok at h
  rw [Bool.and_eq_true] at h
  exact h.1
theorem p_T_u {P : a_A} {len a : Nat} {c : Int32} {u : Bool} (h : p_T P len c a u = true) : u = true := by
  unfold p_T at h
  rw [Bool.and_eq_true] at h
  exact h.1
theorem pN_ge (b : Bool) (a : Nat) : a ≤ pN b a := by unfold pN; split <;> omega
/-! one order: what is laid into the row of orders, where the reading then stands, and if it's well -/
def p_dg (P : a_A) (len a3 : Nat) (k2 b3 : Bool) : Int32 × Nat × Bool := if b3 = true then p_digs P len 7 a3 k2 else (0, a3, k2)
def p_tl (P : a_A) (len a7 : Nat) (u6 b7 : Bool) : Int32 × Nat × Bool := if b7 = true then (p_dv P len a7, pN (p_ok P len 7 a7 u6) a7, p_ok P len 7 a7 u6) else (0, a7, u6)
def p_plus (P : a_A) (len n : Nat) (O : a_A) (a1 : Nat) (w1 : Bool) : a_A × Nat × Bool :=
  let k2 := p_ok P len 5 a1 w1
  let b3 := p_T P len (nI 58) (pN k2 a1) k2
  let d := p_dg P len (pN b3 (pN k2 a1)) k2 b3
  let b5 := p_T P len (nI 33) d.2.1 d.2.2
  let m := p_num P len (pN b5 d.2.1) b5
  let b7 := p_T P len (nI 63) m.2.1 m.2.2
  let e := p_tl P len (pN b7 m.2.1) m.2.2 b7
  (upd (upd (upd (upd O (5 * n + 1) (p_dv P len a1)) (5 * n + 2) d.1) (5 * n + 3) m.1) (5 * n + 4) e.1, e.2.1, e.2.2)
def p_fix (P : a_A) (len n : Nat) (O : a_A) (a1 : Nat) (w1 : Bool) : a_A × Nat × Bool :=
  let d := p_digs P len 5 a1 w1
  let b := p_T P len (nI 94) d.2.1 d.2.2
  let k := p_ok P len 9 (pN b d.2.1) b
  (upd (upd O (5 * n + 1) d.1) (5 * n + 2) (p_dv P len (pN b d.2.1)), pN k (pN b d.2.1), k)
def p_drw (P : a_A) (len n : Nat) (O : a_A) (a1 : Nat) (w1 : Bool) : a_A × Nat × Bool :=
  let k2 := p_ok P len 7 a1 w1
  let b := p_T P len (nI 61) (pN k2 a1) k2
  let m := p_num P len (pN b (pN k2 a1)) b
  (upd (upd O (5 * n + 1) (p_dv P len a1)) (5 * n + 2) m.1, m.2.1, m.2.2)
def p_tim (P : a_A) (len n : Nat) (O : a_A) (a1 : Nat) (w1 : Bool) : a_A × Nat × Bool :=
  let m := p_num P len a1 w1
  (upd O (5 * n + 1) m.1, m.2.1, m.2.2)
def p_fin (P : a_A) (len n : Nat) (O : a_A) (a : Nat) (u : Bool) : a_A × Nat × Bool :=
  let L := p_s P len a
  let w1 := u && p_let L
  let a1 := pN w1 a
  let O0 := upd O (5 * n) L
  if L = nI 43 then p_plus P len n O0 a1 w1 else if L = nI 102 then p_fix P len n O0 a1 w1 else if L = nI 100 then p_drw P len n O0 a1 w1 else p_tim P len n O0 a1 w1
theorem p_plus_adv {P : a_A} {len n a1 : Nat} {O : a_A} {w1 : Bool} (h : (p_plus P len n O a1 w1).2.2 = true) : a1 + 1 ≤ (p_plus P len n O a1 w1).2.1 ∧ w1 = true := by
  unfold p_plus at h ⊢
  dsimp only at h ⊢
  generalize hk2 : p_ok P len 5 a1 w1 = k2 at h ⊢
  generalize hb3 : p_T P len (nI 58) (pN k2 a1) k2 = b3 at h ⊢
  generalize hd : p_dg P len (pN b3 (pN k2 a1)) k2 b3 = d at h ⊢
  generalize hb5 : p_T P len (nI 33) d.2.1 d.2.2 = b5 at h ⊢
  generalize hm : p_num P len (pN b5 d.2.1) b5 = m at h ⊢
  generalize hb7 : p_T P len (nI 63) m.2.1 m.2.2 = b7 at h ⊢
  have hmu : m.2.2 = true ∧ m.2.1 ≤ (p_tl P len (pN b7 m.2.1) m.2.2 b7).2.1 := by
    unfold p_tl at h ⊢
    by_cases q : b7 = true
    · rw [if_pos q] at h ⊢
      exact ⟨p_ok_u h, Nat.le_trans (pN_ge _ _) (pN_ge _ _)⟩
    · rw [if_neg q] at h ⊢
      exact ⟨h, pN_ge _ _⟩
  have hma := p_num_adv (P := P) (len := len) (a := pN b5 d.2.1) (u := b5) (by rw [hm]; exact hmu.1)
  rw [hm] at hma
  have hdu : d.2.2 = true := p_T_u (hb5.trans hma.2)
  have hda : pN k2 a1 ≤ d.2.1 ∧ k2 = true := by
    rw [← hd] at hdu ⊢
    unfold p_dg at hdu ⊢
    by_cases q : b3 = true
    · rw [if_pos q] at hdu ⊢
      have q1 := p_digs_adv hdu
      have q2 := pN_ge b3 (pN k2 a1)
      exact ⟨by omega, q1.2⟩
    · rw [if_neg q] at hdu ⊢
      exact ⟨pN_ge _ _, hdu⟩
  have h1 := pN_ge k2 a1
  have h2 := pN_ge b5 d.2.1
  exact ⟨by omega, p_ok_u (hk2.trans hda.2)⟩
theorem p_fix_adv {P : a_A} {len n a1 : Nat} {O : a_A} {w1 : Bool} (h : (p_fix P len n O a1 w1).2.2 = true) : a1 + 1 ≤ (p_fix P len n O a1 w1).2.1 ∧ w1 = true := by
  unfold p_fix at h ⊢
  dsimp only at h ⊢
  have h1 := p_T_u (p_ok_u h)
  have h2 := p_digs_adv h1
  have h3 := pN_ge (p_T P len (nI 94) (p_digs P len 5 a1 w1).2.1 (p_digs P len 5 a1 w1).2.2) (p_digs P len 5 a1 w1).2.1
  exact ⟨Nat.le_trans h2.1 (Nat.le_trans h3 (pN_ge _ _)), h2.2⟩
theorem p_drw_adv {P : a_A} {len n a1 : Nat} {O : a_A} {w1 : Bool} (h : (p_drw P len n O a1 w1).2.2 = true) : a1 + 1 ≤ (p_drw P len n O a1 w1).2.1 ∧ w1 = true := by
  unfold p_drw at h ⊢
  dsimp only at h ⊢
  have h1 := p_num_adv h
  have h2 := p_T_u h1.2
  have h3 := pN_ge (p_ok P len 7 a1 w1) a1
  have h4 := pN_ge (p_T P len (nI 61) (pN (p_ok P len 7 a1 w1) a1) (p_ok P len 7 a1 w1)) (pN (p_ok P len 7 a1 w1) a1)
  exact ⟨by omega, p_ok_u h2⟩
theorem p_fin_adv {P : a_A} {len n a : Nat} {O : a_A} {u : Bool} (h : (p_fin P len n O a u).2.2 = true) : a + 2 ≤ (p_fin P len n O a u).2.1 ∧ u = true := by
  have key : ∀ (w1 : Bool) (a2 : Nat), (u && p_let (p_s P len a)) = w1 → pN w1 a + 1 ≤ a2 ∧ w1 = true → a + 2 ≤ a2 ∧ u = true := by
    intro w1 a2 e h
    rw [h.2] at e h
    rw [Bool.and_eq_true] at e
    exact ⟨by have := h.1; unfold pN at this; rw [if_pos rfl] at this; omega, e.1⟩
  unfold p_fin at h ⊢
  dsimp only at h ⊢
  by_cases h1 : p_s P len a = nI 43
  · rw [if_pos h1] at h ⊢
    exact key _ _ rfl (p_plus_adv h)
  · rw [if_neg h1] at h ⊢
    by_cases h2 : p_s P len a = nI 102
    · rw [if_pos h2] at h ⊢
      exact key _ _ rfl (p_fix_adv h)
    · rw [if_neg h2] at h ⊢
      by_cases h3 : p_s P len a = nI 100
      · rw [if_pos h3] at h ⊢
        exact key _ _ rfl (p_drw_adv h)
      · rw [if_neg h3] at h ⊢
        exact key _ _ rfl (p_num_adv h)
theorem p_plus_le {P : a_A} {len n a1 : Nat} {O : a_A} {w1 : Bool} (h : a1 ≤ len) : (p_plus P len n O a1 w1).2.1 ≤ len := by
  unfold p_plus
  dsimp only
  generalize hk2 : p_ok P len 5 a1 w1 = k2
  have g2 : pN k2 a1 ≤ len := pN_lt h (fun q => (p_ok_lt (by decide) (hk2.trans q)).1)
  generalize hb3 : p_T P len (nI 58) (pN k2 a1) k2 = b3
  have g3 : pN b3 (pN k2 a1) ≤ len := pN_lt g2 (fun q => (p_T_lt (by decide) (hb3.trans q)).1)
  have g4 : (p_dg P len (pN b3 (pN k2 a1)) k2 b3).2.1 ≤ len := by
    unfold p_dg
    split
    · exact p_digs_le (by decide) g3
    · exact g3
  generalize p_dg P len (pN b3 (pN k2 a1)) k2 b3 = d at g4
  have g5 : pN (p_T P len (nI 33) d.2.1 d.2.2) d.2.1 ≤ len := pN_lt g4 (fun q => (p_T_lt (by decide) q).1)
  have g6 : (p_num P len (pN (p_T P len (nI 33) d.2.1 d.2.2) d.2.1) (p_T P len (nI 33) d.2.1 d.2.2)).2.1 ≤ len := p_num_le g5
  generalize p_num P len (pN (p_T P len (nI 33) d.2.1 d.2.2) d.2.1) (p_T P len (nI 33) d.2.1 d.2.2) = m at g6
  have g7 : pN (p_T P len (nI 63) m.2.1 m.2.2) m.2.1 ≤ len := pN_lt g6 (fun q => (p_T_lt (by decide) q).1)
  unfold p_tl
  split
  · exact pN_lt g7 (fun q => (p_ok_lt (by decide) q).1)
  · exact g7
theorem p_fin_le {P : a_A} {len n a : Nat} {O : a_A} {u : Bool} (h : a ≤ len) : (p_fin P len n O a u).2.1 ≤ len := by
  have g1 : pN (u && p_let (p_s P len a)) a ≤ len := pN_lt h (fun q => by rw [Bool.and_eq_true] at q; exact p_let_lt q.2)
  unfold p_fin
  dsimp only
  generalize pN (u && p_let (p_s P len a)) a = a1 at g1
  generalize (u && p_let (p_s P len a)) = w1
  split
  · exact p_plus_le g1
  · split
    · unfold p_fix
      dsimp only
      have g2 : (p_digs P len 5 a1 w1).2.1 ≤ len := p_digs_le (by decide) g1
      have g3 := pN_lt (b := p_T P len (nI 94) (p_digs P len 5 a1 w1).2.1 (p_digs P len 5 a1 w1).2.2) g2 (fun q => (p_T_lt (by decide) q).1)
      exact pN_lt g3 (fun q => (p_ok_lt (by decide) q).1)
    · split
      · unfold p_drw
        dsimp only
        have g2 := pN_lt (b := p_ok P len 7 a1 w1) g1 (fun q => (p_ok_lt (by decide) q).1)
        exact p_num_le (pN_lt g2 (fun q => (p_T_lt (by decide) q).1))
      · exact p_num_le g1
/-! the whole text -/
def p_rl (P : a_A) (len : Nat) : Nat → Nat → a_A → Nat → Bool → Nat × a_A × Nat × Bool
  | 0, n, O, a, u => (n, O, a, u)
  | k + 1, n, O, a, u =>
    if u = true ∧ a < len then
      (if p_T P len (nI 59) a u = true then p_rl P len k (pN (p_fin P len n O (a + 1) true).2.2 n) (p_fin P len n O (a + 1) true).1 (p_fin P len n O (a + 1) true).2.1 (p_fin P len n O (a + 1) true).2.2 else (n, O, a, false))
    else (n, O, a, u)
def p_all (P : a_A) (len : Nat) (O : a_A) : Nat × a_A × Nat × Bool :=
  p_rl P len 81 (pN (p_fin P len 0 O 0 true).2.2 0) (p_fin P len 0 O 0 true).1 (p_fin P len 0 O 0 true).2.1 (p_fin P len 0 O 0 true).2.2
