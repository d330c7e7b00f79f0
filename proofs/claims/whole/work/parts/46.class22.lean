theorem p_fin_fr {P O : a_A} {len n a j : Nat} {u : Bool} (hj : j < 5 * n) : (p_fin P len n O a u).1 j = O j := by
  unfold p_fin
  dsimp only
  split
  · unfold p_plus
    simp (disch := omega) only [q_upd_ne]
  · split
    · unfold p_fix
      simp (disch := omega) only [q_upd_ne]
    · split
      · unfold p_drw
        simp (disch := omega) only [q_upd_ne]
      · unfold p_tim
        simp (disch := omega) only [q_upd_ne]
theorem p_fin_L {P O : a_A} {len n a : Nat} {u : Bool} : (p_fin P len n O a u).1 (5 * n) = p_s P len a := by
  unfold p_fin
  dsimp only
  split
  · unfold p_plus
    simp (disch := omega) only [q_upd_ne, q_upd_at]
  · split
    · unfold p_fix
      simp (disch := omega) only [q_upd_ne, q_upd_at]
    · split
      · unfold p_drw
        simp (disch := omega) only [q_upd_ne, q_upd_at]
      · unfold p_tim
        simp (disch := omega) only [q_upd_ne, q_upd_at]
theorem p_fin_D {P O : a_A} {len n a : Nat} (hP : Pg P len) (h : (p_fin P len n O a true).2.2 = true) (hL : p_s P len a = nI 100) : ∃ j, j < 8 ∧ (p_fin P len n O a true).1 (5 * n + 1) = nI j := by
  rw [p_fin_100 hL] at h ⊢
  unfold p_drw at h ⊢
  dsimp only at h ⊢
  obtain ⟨-, h1⟩ := p_num_adv h
  obtain ⟨k, hk, ek, -⟩ := p_dv_n hP (by decide) (p_T_u h1)
  refine ⟨k, by omega, ?_⟩
  rw [q_upd_ne (by omega), q_upd_at]
  exact ek
theorem p_rl_fr (P : a_A) (len : Nat) : ∀ k n O a u j, j < 5 * n → (p_rl P len k n O a u).2.1 j = O j := by
  intro k
  induction k with
  | zero => intro n O a u j _; rfl
  | succ k ih =>
    intro n O a u j hj
    unfold p_rl
    split
    · split
      · rw [ih _ _ _ _ j (by have := pN_ge (p_fin P len n O (a + 1) true).2.2 n; omega)]
        exact p_fin_fr hj
      · rfl
    · rfl
theorem p_rl_ge (P : a_A) (len : Nat) : ∀ k n O a u, n ≤ (p_rl P len k n O a u).1 := by
  intro k
  induction k with
  | zero => intro n O a u; exact Nat.le_refl n
  | succ k ih =>
    intro n O a u
    unfold p_rl
    split
    · split
      · exact Nat.le_trans (pN_ge _ _) (ih _ _ _ _)
      · exact Nat.le_refl n
    · exact Nat.le_refl n
theorem p_RS_many {P O0 O : a_A} {len i a : Nat} (h : p_RS P len O0 i O a) (hf : (p_all P len O0).2.2.2 = true) : (p_F P len i O a).2.2 = true ∧ i + 1 ≤ (p_all P len O0).1 ∧ ∀ j, j < 5 * (i + 1) → (p_all P len O0).2.1 j = (p_F P len i O a).1 j := by
  cases e : (p_F P len i O a).2.2 with
  | false => rw [p_RS_no h e] at hf; exact absurd hf Bool.false_ne_true
  | true =>
    have h3 := h.2.2
    rw [e] at h3
    refine ⟨rfl, ?_, fun j hj => ?_⟩
    · rw [h3]; exact p_rl_ge P len _ _ _ _ _
    · rw [h3]; exact p_rl_fr P len _ _ _ _ _ j hj
theorem p_F_end {P O : a_A} {len i : Nat} : (p_F P len i O len).2.2 = false := by
  cases e : (p_F P len i O len).2.2 with
  | false => rfl
  | true =>
    have h1 := p_F_adv e
    have h2 := p_F_le (P := P) (O := O) (i := i) (Nat.le_refl len)
    omega
theorem p_T_end {P : a_A} {len a : Nat} (h : ¬ a < len) : p_T P len (nI 59) a true = false := by
  cases e : p_T P len (nI 59) a true with
  | false => rfl
  | true => exact absurd (p_T_lt (by decide) e).1 h
theorem Ds.loc {d u : Nat} {I J : q_Mem} {σ : a_A} {H : Nat → a_A} (h : Ds d I σ u H) (e : ∀ l, d + 1 ≤ l → l < d + 426 → J l = I l) : Ds d J σ u H := by
  obtain ⟨h1, n, h2, h3, h4, h5, h6⟩ := h
  refine ⟨h1.loc fun l a b => e l (by omega) (by omega), n, ?_, ?_, h4, h5, fun i hi => (h6 i hi).loc fun l a b => e l (by omega) (by have : (n + 7 - u + i) % 7 < 7 := Nat.mod_lt _ (by decide); omega)⟩
  · rw [e _ (by omega) (by omega)]; exact h2
  · rw [e _ (by omega) (by omega)]; exact h3
theorem Pk.loc {q len : Nat} {I J : q_Mem} {P : a_A} (h : Pk q I P len) (e0 : J q = I q) (e1 : J (q + 1) = I (q + 1)) : Pk q J P len := by
  obtain ⟨h1, h2, h3⟩ := h
  exact ⟨h1, by rw [e0]; exact h2, fun j hj => by rw [e1]; exact h3 j hj⟩
theorem Pd.loc {q len a : Nat} {I J : q_Mem} {P : a_A} {L D S N X : Int32} (h : Pd q I P len a L D S N X) (e0 : J q = I q) (e1 : J (q + 1) = I (q + 1)) : Pd q J P len a L D S N X := by
  obtain ⟨⟨h1, h2, h3⟩, h4⟩ := h
  refine ⟨⟨h1, by rw [e0]; exact h2, fun j hj => by rw [e1]; exact h3 j hj⟩, ?_⟩
  rw [e0]
  exact h4
theorem Ds.loc2 {d u n : Nat} {I J : q_Mem} {σ : a_A} {H : Nat → a_A} (_ : Ds d I σ u H) (h : Pr (d + 95) I u n H) (e : ∀ l, d + 1 ≤ l → l < d + 426 → J l = I l) : Pr (d + 95) J u n H := by
  obtain ⟨h2, h3, h4, h5, h6⟩ := h
  refine ⟨?_, ?_, h4, h5, fun i hi => (h6 i hi).loc fun l a b => e l (by omega) (by have : (n + 7 - u + i) % 7 < 7 := Nat.mod_lt _ (by decide); omega)⟩
  · rw [e _ (by omega) (by omega)]; exact h2
  · rw [e _ (by omega) (by omega)]; exact h3
def c_Co (d : Nat) (I : q_Mem) (σ X : a_A) (n : Nat) (w : Option Value) (J : q_Mem) : Prop := ∃ v, w = some (.int v) ∧ ((a_refO σ X n ≠ 0 ∧ v < 0 ∧ J = I) ∨ (a_refO σ X n = 0 ∧ ¬ v < 0 ∧ Rs (d + 1) J (a_doO σ X n) ∧ Fr (d + 1) I J))
theorem c_Co_of {d n : Nat} {I J : q_Mem} {σ X σ' : a_A} {ref yes : Int32} {w : Option Value} (h : Cg (d + 1) I ref yes σ' w J) (e1 : a_refO σ X n = ref) (e2 : ref = 0 → a_doO σ X n = σ') (hneg : ref ≠ 0 → ref < 0) (hpos : ¬ yes < 0) : c_Co d I σ X n w J := by
  subst e1
  obtain ⟨v, rfl, ⟨h0, rfl, rfl⟩ | ⟨h0, rfl, h1, h2⟩⟩ := h
  · exact ⟨_, rfl, Or.inl ⟨h0, hneg h0, rfl⟩⟩
  · exact ⟨_, rfl, Or.inr ⟨h0, hpos, by rw [e2 h0]; exact h1, h2⟩⟩
theorem s_X6_carryOrderR {Sh : q_Sh} {I : q_Mem} {d len a n : Nat} {σ P X : a_A} {L D S N Z : Int32} (hc : dOk Sh d) (hR : Rs (d + 1) I σ) (hG : Pd (d + 427) I P len a L D S N Z) (hL : X (5 * n) = L)
    (hX : (L = nI 43 ∧ X (5 * n + 1) = D ∧ X (5 * n + 2) = S ∧ X (5 * n + 3) = N ∧ X (5 * n + 4) = Z) ∨ (L = nI 102 ∧ X (5 * n + 1) = S ∧ X (5 * n + 2) = Z) ∨ (L = nI 100 ∧ X (5 * n + 1) = D ∧ X (5 * n + 2) = N) ∨ (L = nI 116 ∧ X (5 * n + 1) = N)) (hD : L = nI 100 → ∃ j, j < 8 ∧ X (5 * n + 1) = nI j) :
    q_Rp mX6_carryOrder 6 [.ref d] Sh I (fun w J => c_Co d I σ X n w J) := by
  rcases hX with ⟨rfl, e1, e2, e3, e4⟩ | ⟨rfl, e1, e2⟩ | ⟨rfl, e1, e2⟩ | ⟨rfl, e1⟩
  · refine q_rp_mono (s_X6_carryOrder_T hc hR hG) fun w J h => c_Co_of h ?_ (fun _ => ?_) a_refT_neg (nI_pos (by have := hR.1.1.1; omega))
    · unfold a_refO; rw [hL, if_pos rfl, e1, e2, e3, e4]
    · unfold a_doO; rw [hL, if_pos rfl, e1, e2, e3, e4]
  · refine q_rp_mono (s_X6_carryOrder_F hc hR hG) fun w J h => c_Co_of h ?_ (fun _ => ?_) a_refF_neg (nI_pos (by have := hR.1.1.2; omega))
    · unfold a_refO; rw [hL, if_neg (by decide), if_pos rfl, e1, e2]
    · unfold a_doO; rw [hL, if_neg (by decide), if_pos rfl, e1, e2]
  · obtain ⟨j, hj, ej⟩ := hD rfl
    refine q_rp_mono (s_X6_carryOrder_D hc hR hG hj (e1.symm.trans ej)) fun w J h => c_Co_of h ?_ (fun _ => ?_) a_refD_neg (by obtain ⟨c, hc, e⟩ := hR.2.2.2.2.2.2.2.2.2.2 j hj; rw [e]; exact nI_pos (by omega))
    · unfold a_refO; rw [hL, if_neg (by decide), if_neg (by decide), if_pos rfl, ej, e2]
    · unfold a_doO; rw [hL, if_neg (by decide), if_neg (by decide), if_pos rfl, ej, e2, show a_n (nI j) = j from nI_clamp (by omega)]
  · refine q_rp_mono (s_X6_carryOrder_P hc hR hG) fun w J h => c_Co_of h ?_ (fun _ => ?_) a_refP_neg (by obtain ⟨c, hc, e⟩ := a_rep_pos hR.2.2 (a_n N); rw [e]; exact nI_pos (by omega))
    · unfold a_refO; rw [hL, if_neg (by decide), if_neg (by decide), if_neg (by decide), e1]
    · unfold a_doO; rw [hL, if_neg (by decide), if_neg (by decide), if_neg (by decide), e1]
theorem a_co_s {X : a_A} {k n : Nat} {σ : a_A} (h : a_refO σ X n = 0) : a_co X (k + 1) n σ = a_co X k (n + 1) (a_doO σ X n) := if_pos h
theorem a_co_n {X : a_A} {k n : Nat} {σ : a_A} (h : a_refO σ X n ≠ 0) : a_co X k n σ = (n, σ) := by
  cases k with
  | zero => rfl
  | succ k => exact if_neg h
set_option maxRecDepth 100000 in
set_option maxHeartbeats 4000000 in
theorem s_X6_carryOut_no {Sh : q_Sh} {I : q_Mem} {d u len : Nat} {σ P O0 : a_A} {H : Nat → a_A} (hc : dOk Sh d) (hD : Ds d I σ u H) (hG : Pk (d + 427) I P len) (hf : (p_all P len O0).2.2.2 = false) : q_Rp mX6_carryOut 7 [.ref d] Sh (I) (fun w J => w = some (.int (-3)) ∧ Ds d J σ u H ∧ Pk (d + 427) J P len ∧ FrP (d + 427) I J) := by
  refine q_rp_of (by decide) (Nat.le_of_ble_eq_true rfl) fun Γ BM => ?_
  have B := BM.1
  have hl := hG.1.1
  have hle := p_all_le P O0 hl
  show q_W Γ mX6_carryOut 0 0 Sh (I) 0 [(0, .ref d)] []
  refine q_aload_n B dX6_carryOut_0 rfl rfl ?_
  refine q_rpV B (s_X6_fault (O0 := O0) hc hG) kv_yX6_fault ki_yX6_fault ks_yX6_fault km_X6_208 rfl (ci := 6) rfl rfl hc.1 (by decide) rfl (Nat.le_of_ble_eq_true rfl) dX6_carryOut_1 (fun w0 J hx => ?_)
  obtain ⟨rfl, hG0, hF0⟩ := hx
  rw [hf, if_neg Bool.false_ne_true]
  refine q_bipush (v := -6) B dX6_carryOut_4 rfl ?_
  refine q_icmp_eq (tgt := 12) B dX6_carryOut_6 (by decide) (fun h => absurd h ((a_nI_ne6 (by omega)))) (fun _ => ?_)
  refine q_bipush (v := -3) B dX6_carryOut_9 rfl ?_
  exact q_iret BM rfl dX6_carryOut_11 ⟨rfl, rfl, hD.loc (fun l a b => hF0 l (by omega)), hG0, hF0⟩
set_option maxRecDepth 100000 in
set_option maxHeartbeats 4000000 in
theorem s_X6_carryOut_yes {Sh : q_Sh} {I : q_Mem} {d u len : Nat} {σ P O0 : a_A} {H : Nat → a_A} (hc : dOk Sh d) (hD : Ds d I σ u H) (hG : Pk (d + 427) I P len) (hf : (p_all P len O0).2.2.2 = true) : q_Rp mX6_carryOut 7 [.ref d] Sh (I) (fun w J => w = some (.int (nI (a_co (p_all P len O0).2.1 (p_all P len O0).1 0 σ).1)) ∧ Ds d J (a_co (p_all P len O0).2.1 (p_all P len O0).1 0 σ).2 (a_recN u) (a_push u H σ) ∧ J (d + 427) 0 = nI 0 ∧ (∀ l, d + 429 ≤ l → J l = I l)) := by
  refine q_rp_of (by decide) (Nat.le_of_ble_eq_true rfl) fun Γ BM => ?_
  have B := BM.1
  have hl := hG.1.1
  have hM : (p_all P len O0).1 ≤ 27 := p_all_n P O0 hl
  show q_W Γ mX6_carryOut 0 0 Sh (I) 0 [(0, .ref d)] []
  refine q_aload_n B dX6_carryOut_0 rfl rfl ?_
  refine q_rpV B (s_X6_fault (O0 := O0) hc hG) kv_yX6_fault ki_yX6_fault ks_yX6_fault km_X6_208 rfl (ci := 6) rfl rfl hc.1 (by decide) rfl (Nat.le_of_ble_eq_true rfl) dX6_carryOut_1 (fun w0 J0 hx => ?_)
  obtain ⟨rfl, hG0, hF0⟩ := hx
  rw [hf, if_pos rfl]
  obtain ⟨hR, z0, hP⟩ := hD.loc (fun l a b => hF0 l (by omega))
  have hu := hP.2.2.1
  have hn := hP.2.2.2.1
  refine q_bipush (v := -6) B dX6_carryOut_4 rfl ?_
  refine q_icmp_eq (tgt := 12) B dX6_carryOut_6 (by decide) (fun _ => ?_) (fun h => absurd rfl h)
  refine q_aload_n B dX6_carryOut_12 rfl rfl ?_
  refine q_getR B kC_X6 (k := 2) (by decide) rfl kf_X6_22 hc.1 (dp hc) dX6_carryOut_13 ?_
  refine q_aload_n B dX6_carryOut_16 rfl rfl ?_
  refine q_getR B kC_X6 (k := 0) (by decide) rfl kf_X6_10 hc.1 (dn hc) dX6_carryOut_17 ?_
  refine q_rpV B (s_X4_note (dP hc) hP.2.1 hn (dN hc) hR (by omega)) kv_yX4_note ki_yX4_note ks_yX4_note km_X6_37 rfl (ci := 4) rfl rfl (dP hc).1 (by decide) rfl (Nat.le_of_ble_eq_true rfl) dX6_carryOut_20 (fun w1 I1 hx => ?_)
  obtain ⟨rfl, hs, hF⟩ := hx
  have hs : Rs (d + 95 + 2 + 47 * z0) I1 σ := hs
  have hR1 : Rs (d + 1) I1 σ := hR.far hF (by omega)
  have hP1 := hP.note hF
  refine q_aload_n B dX6_carryOut_23 rfl rfl ?_
  refine q_getR B kC_X6 (k := 2) (by decide) rfl kf_X6_22 hc.1 (dp hc) dX6_carryOut_24 ?_
  refine q_rtV B (s_X4_keep (dP hc) hP1.1 hP1.2.1 hu hn) kv_yX4_keep ki_yX4_keep ks_yX4_keep km_X6_211 rfl (ci := 4) rfl rfl (dP hc).1 (by decide) rfl (Nat.le_of_ble_eq_true rfl) dX6_carryOut_27 ?_
  have hP2 := hP1.keep hs
  have hR2 : Rs (d + 1) (kpM (d + 95) I1 u z0) σ := hR1.loc (fun l a b => q_setA_ne (by omega))
  have hG2 : Pk (d + 427) (kpM (d + 95) I1 u z0) P len := hG0.loc ((q_setA_ne (by omega)).trans (hF _ (by omega))) ((q_setA_ne (by omega)).trans (hF _ (by omega)))
  have hfr2 : ∀ l, d + 429 ≤ l → kpM (d + 95) I1 u z0 l = I l := fun l hl => ((q_setA_ne (by omega)).trans (hF l (by omega))).trans (hF0 l (by omega))
  have hn2 : (z0 + 1) % 7 < 7 := Nat.mod_lt _ (by decide)
  have j_78 : ∀ (J : q_Mem) (i : Nat) (τ : a_A), a_co (p_all P len O0).2.1 (p_all P len O0).1 0 σ = (i, τ) ∧ Rs (d + 1) J τ ∧ Pr (d + 95) J (a_recN u) ((z0 + 1) % 7) (a_push u H σ) ∧ (∀ l, d + 429 ≤ l → J l = I l) → q_W Γ mX6_carryOut 0 0 Sh J 78 [(0, .ref d), (1, .int (nI i))] [] := by
    intro J i τ hr
    obtain ⟨hco, hRJ, hPJ, hFJ⟩ := hr
    refine q_aload_n B dX6_carryOut_78 rfl rfl ?_
    refine q_getR B kC_X6 (k := 4) (by decide) rfl kf_X6_33 hc.1 (dpd hc) dX6_carryOut_79 ?_
    refine q_iconst (v := nI 0) B dX6_carryOut_82 rfl ?_
    refine q_putI2 B kC_X2 (k := 0) (by decide) rfl kf_X6_151 rfl rfl rfl (dPd hc) dX6_carryOut_83 ?_
    refine q_iload_n B dX6_carryOut_86 rfl rfl ?_
    exact q_iret BM rfl dX6_carryOut_87 ⟨rfl, by rw [hco], by rw [hco]; exact (show Ds d J τ _ _ from ⟨hRJ, _, hPJ⟩).loc (fun l a b => q_setA_ne (by omega)), by rw [q_setA_at, q_upd_at], fun l hl => (q_setA_ne (by omega)).trans (hFJ l hl)⟩
  refine q_iconst (v := nI 0) B dX6_carryOut_30 rfl ?_
  refine q_istore_n B dX6_carryOut_31 rfl (Nat.le_of_ble_eq_true rfl) rfl ?_
  refine q_aload_n B dX6_carryOut_32 rfl rfl ?_
  refine q_getR B kC_X6 (k := 4) (by decide) rfl kf_X6_33 hc.1 (dpd hc) dX6_carryOut_33 ?_
  refine q_rpV B (s_X2_begin0 (dG hc) hG2) kv_yX2_begin ki_yX2_begin ks_yX2_begin km_X6_193 rfl (ci := 2) rfl rfl (dPd hc) (by decide) rfl (Nat.le_of_ble_eq_true rfl) dX6_carryOut_36 (fun w2 J2 hx => ?_)
  obtain ⟨rfl, ⟨L0, D0, S0, N0, X0, hG3⟩, hF3⟩ := hx
  have hR3 : Rs (d + 1) J2 σ := hR2.loc (fun l a b => hF3 l (by omega))
  have hP3 : Pr (d + 95) J2 (a_recN u) ((z0 + 1) % 7) (a_push u H σ) := ((show Ds d _ _ _ _ from ⟨hR2, _, hP2⟩).loc2 hP2 (fun l a b => hF3 l (by omega)))
  have hl_39 : ∀ (n i : Nat) (τ O : a_A) (a : Nat) (L D S N X : Int32) (J : q_Mem), i + n = 80 → ((i ≤ (p_all P len O0).1 ∧ a_co (p_all P len O0).2.1 ((p_all P len O0).1 - i) i τ = a_co (p_all P len O0).2.1 (p_all P len O0).1 0 σ) ∧ (Rs (d + 1) J τ ∧ Pr (d + 95) J (a_recN u) ((z0 + 1) % 7) (a_push u H σ)) ∧ Pd (d + 427) J P len a L D S N X ∧ (∀ l, d + 429 ≤ l → J l = I l) ∧ ((i < (p_all P len O0).1 ∧ p_RS P len O0 i O a) ∨ (i = (p_all P len O0).1 ∧ a = len))) → q_W Γ mX6_carryOut 0 0 Sh J 39 [(0, .ref d), (1, .int (nI i))] [] := by
    intro n
    induction n with
    | zero =>
      intro i τ O a L D S N X J hin hinv
      exact absurd hinv.1.1 (by omega)
    | succ n ih =>
      intro i τ O a L D S N X J hin hinv
      have hiN : i < 80 := by omega
      obtain ⟨⟨hi1, hco⟩, ⟨hRJ, hPJ⟩, hGJ, hFJ, hcs⟩ := hinv
      refine q_iload_n B dX6_carryOut_39 rfl rfl ?_
      refine q_bipush (v := nI 80) B dX6_carryOut_40 rfl ?_
      refine q_icmp_ge (tgt := 78) B dX6_carryOut_42 (by decide) (fun h => absurd h (q_nle hiN (by decide))) (fun _ => ?_)
      refine q_aload_n B dX6_carryOut_45 rfl rfl ?_
      refine q_getR B kC_X6 (k := 4) (by decide) rfl kf_X6_33 hc.1 (dpd hc) dX6_carryOut_46 ?_
      refine q_rpV B (s_X2_readOrder (n := i) (O := O) (dG hc) hGJ) kv_yX2_readOrder ki_yX2_readOrder ks_yX2_readOrder km_X6_196 rfl (ci := 2) rfl rfl (dPd hc) (by decide) rfl (Nat.le_of_ble_eq_true rfl) dX6_carryOut_49 (fun w3 J3 hx => ?_)
      change Rq _ _ _ _ _ _ (p_F P len i O a) _ _ at hx
      obtain ⟨rfl, ⟨D1, S1, N1, X1, hG4, hq⟩, hF4⟩ := hx
      have hRJ2 : Rs (d + 1) J3 τ := hRJ.loc (fun l a b => hF4 l (by omega))
      have hPJ2 := (show Ds d J τ _ _ from ⟨hRJ, _, hPJ⟩).loc2 hPJ (fun l a b => hF4 l (by omega))
      have hFJ2 : ∀ l, d + 429 ≤ l → J3 l = I l := fun l hl => (hF4 l (by omega)).trans (hFJ l hl)
      refine q_if_eq (tgt := 78) B dX6_carryOut_52 (by decide) (fun c_52 => ?_) (fun c_52 => ?_)
      · skip
        have e1 := b2_0 c_52
        have hB := hcs.resolve_left (fun z => absurd (p_RS_many z.2 hf).1 (by rw [e1]; exact Bool.false_ne_true))
        have hfin := (show a_co (p_all P len O0).2.1 (p_all P len O0).1 0 σ = (i, τ) ∧ _ ∧ _ ∧ _ from ⟨by rw [← hco, ← hB.1, Nat.sub_self]; rfl, hRJ2, hPJ2, hFJ2⟩)
        exact q_tk (j_78 _ _ _ hfin) rfl (q_ac rfl (q_ac rfl q_an))
      · skip
        have e1 := b2_1 c_52
        obtain ⟨hlt, hS⟩ := hcs.resolve_right (fun z => by rw [z.2, p_F_end] at e1; exact Bool.false_ne_true e1)
        obtain ⟨-, hM1, hrow⟩ := p_RS_many hS hf
        have hX := hq e1
        rw [← hrow (5 * i + 1) (by omega), ← hrow (5 * i + 2) (by omega), ← hrow (5 * i + 3) (by omega), ← hrow (5 * i + 4) (by omega)] at hX
        have hL := (hrow (5 * i) (by omega)).trans p_fin_L
        have hDj : p_s P len a = nI 100 → ∃ j, j < 8 ∧ (p_all P len O0).2.1 (5 * i + 1) = nI j := fun z => by rw [hrow (5 * i + 1) (by omega)]; exact p_fin_D hG4.1.1 e1 z
        refine q_aload_n B dX6_carryOut_55 rfl rfl ?_
        refine q_rpV B (s_X6_carryOrderR (n := i) hc hRJ2 hG4 hL hX hDj) kv_yX6_carryOrder ki_yX6_carryOrder ks_yX6_carryOrder km_X6_214 rfl (ci := 6) rfl rfl hc.1 (by decide) rfl (Nat.le_of_ble_eq_true rfl) dX6_carryOut_56 (fun w4 J4 hx => ?_)
        obtain ⟨v, rfl, hx⟩ := hx
        refine q_if_lt (tgt := 78) B dX6_carryOut_59 (by decide) (fun c_59 => ?_) (fun c_59 => ?_)
        · skip
          obtain ⟨hr0, -, rfl⟩ := hx.resolve_right (fun z => z.2.1 c_59)
          have hfin := (show a_co (p_all P len O0).2.1 (p_all P len O0).1 0 σ = (i, τ) ∧ _ ∧ _ ∧ _ from ⟨by rw [← hco]; exact a_co_n hr0, hRJ2, hPJ2, hFJ2⟩)
          exact q_tk (j_78 _ _ _ hfin) rfl (q_ac rfl (q_ac rfl q_an))
        · skip
          obtain ⟨hr0, -, hR5, hF5⟩ := hx.resolve_left (fun z => c_59 z.2.1)
          have hG5 := hG4.loc (hF5 _ (by omega)) (hF5 _ (by omega))
          have hP5 := hPJ2.far hF5 (by omega)
          have hco5 := hco
          rw [show (p_all P len O0).1 - i = ((p_all P len O0).1 - (i + 1)) + 1 by omega, a_co_s hr0] at hco5
          refine q_iinc2 (y := nI (i + 1)) B dX6_carryOut_62 rfl (q_inc1 _) (Nat.le_of_ble_eq_true rfl) rfl ?_
          refine q_aload_n B dX6_carryOut_65 rfl rfl ?_
          refine q_getR B kC_X6 (k := 4) (by decide) rfl kf_X6_33 hc.1 (dpd hc) dX6_carryOut_66 ?_
          refine q_bipush (v := nI 59) B dX6_carryOut_69 rfl ?_
          refine q_rpV B (s_X2_readSign (dG hc) hG5 (c := 59) (by decide) (by decide)) kv_yX2_readSign ki_yX2_readSign ks_yX2_readSign km_X6_205 rfl (ci := 2) rfl rfl (dPd hc) (by decide) rfl (Nat.le_of_ble_eq_true rfl) dX6_carryOut_71 (fun w5 J5 hx => ?_)
          obtain ⟨rfl, hG6, hF6⟩ := hx
          refine q_pop B dX6_carryOut_74 rfl ?_
          refine q_goto (tgt := 39) B dX6_carryOut_75 (by decide) ?_
          refine q_tk (ih (i + 1) (a_doO τ (p_all P len O0).2.1 i) (p_F P len i O a).1 _ _ _ _ _ _ J5 (by omega) ⟨⟨hM1, hco5⟩, ⟨hR5.loc (fun l a b => hF6 l (by omega)), (show Ds d J4 _ _ _ from ⟨hR5, _, hP5⟩).loc2 hP5 (fun l a b => hF6 l (by omega))⟩, hG6, fun l hl => ((hF6 l (by omega)).trans (hF5 l (by omega))).trans (hFJ2 l hl), ?_⟩) rfl (q_ac rfl (q_ac rfl q_an))
          by_cases hlt2 : (p_F P len i O a).2.1 < len
          · have hT : p_T P len (nI 59) (p_F P len i O a).2.1 true = true := by
              cases e : p_T P len (nI 59) (p_F P len i O a).2.1 true with
              | true => rfl
              | false => rw [p_RS_bad hS hl e1 hlt2 e] at hf; exact absurd hf Bool.false_ne_true
            rw [show p_T P len (nI 59) (p_F P len i O a).2.1 true = true from hT]
            have hgo := p_RS_go hS hl e1 hlt2 hT
            exact Or.inl ⟨(p_RS_many hgo hf).2.1, hgo⟩
          · have hT := p_T_end (P := P) hlt2
            rw [show p_T P len (nI 59) (p_F P len i O a).2.1 true = false from hT]
            have hle := p_F_le (P := P) (O := O) (i := i) hS.1
            exact Or.inr ⟨by rw [p_RS_end hS hl e1 hlt2], by show (p_F P len i O a).2.1 = len; omega⟩
  exact q_tk (hl_39 80 0 σ O0 0 L0 D0 S0 N0 X0 J2 (by omega) ⟨⟨Nat.zero_le _, rfl⟩, ⟨hR3, hP3⟩, hG3, (fun l hl => (hF3 l (by omega)).trans (hfr2 l hl)), Or.inl ⟨(p_RS_many p_RS_0 hf).2.1, p_RS_0⟩⟩) rfl (q_ac rfl (q_ac rfl q_an))
