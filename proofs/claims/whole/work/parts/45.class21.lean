/-! reading on, order by order -/
def p_F (P : a_A) (len i : Nat) (O : a_A) (a : Nat) : a_A × Nat × Bool := p_fin P len i O a true
def p_RS (P : a_A) (len : Nat) (O0 : a_A) (i : Nat) (O : a_A) (a : Nat) : Prop :=
  a ≤ len ∧ 3 * i ≤ a ∧ p_all P len O0 = p_rl P len (81 - i) (pN (p_F P len i O a).2.2 i) (p_F P len i O a).1 (p_F P len i O a).2.1 (p_F P len i O a).2.2
theorem p_RS_0 {P O : a_A} {len : Nat} : p_RS P len O 0 O 0 := ⟨Nat.zero_le _, Nat.zero_le _, rfl⟩
theorem p_F_le {P O : a_A} {len i a : Nat} (h : a ≤ len) : (p_F P len i O a).2.1 ≤ len := p_fin_le h
theorem p_F_adv {P O : a_A} {len i a : Nat} (h : (p_F P len i O a).2.2 = true) : a + 2 ≤ (p_F P len i O a).2.1 := (p_fin_adv h).1
theorem p_RS_no {P O0 O : a_A} {len i a : Nat} (h : p_RS P len O0 i O a) (e : (p_F P len i O a).2.2 = false) : p_all P len O0 = (i, (p_F P len i O a).1, (p_F P len i O a).2.1, false) := by
  rw [h.2.2, e, p_rl_false]
  rfl
theorem p_RS_end {P O0 O : a_A} {len i a : Nat} (h : p_RS P len O0 i O a) (hl : len ≤ 80) (e : (p_F P len i O a).2.2 = true) (hg : ¬ (p_F P len i O a).2.1 < len) : p_all P len O0 = (i + 1, (p_F P len i O a).1, (p_F P len i O a).2.1, true) := by
  have h1 := h.1
  have h2 := h.2.1
  rw [h.2.2, e, show 81 - i = (80 - i) + 1 by omega]
  unfold p_rl
  rw [if_neg (fun z => hg z.2)]
  rfl
theorem p_RS_bad {P O0 O : a_A} {len i a : Nat} (h : p_RS P len O0 i O a) (hl : len ≤ 80) (e : (p_F P len i O a).2.2 = true) (hg : (p_F P len i O a).2.1 < len) (hT : p_T P len (nI 59) (p_F P len i O a).2.1 true = false) : p_all P len O0 = (i + 1, (p_F P len i O a).1, (p_F P len i O a).2.1, false) := by
  have h1 := h.1
  have h2 := h.2.1
  rw [h.2.2, e, show 81 - i = (80 - i) + 1 by omega]
  unfold p_rl
  rw [if_pos ⟨rfl, hg⟩, if_neg (by rw [hT]; exact Bool.false_ne_true)]
  rfl
theorem p_RS_go {P O0 O : a_A} {len i a : Nat} (h : p_RS P len O0 i O a) (hl : len ≤ 80) (e : (p_F P len i O a).2.2 = true) (hg : (p_F P len i O a).2.1 < len) (hT : p_T P len (nI 59) (p_F P len i O a).2.1 true = true) : p_RS P len O0 (i + 1) (p_F P len i O a).1 ((p_F P len i O a).2.1 + 1) := by
  have h1 := h.1
  have h2 := h.2.1
  have h3 := p_F_adv e
  refine ⟨hg, by omega, ?_⟩
  rw [h.2.2, e, show 81 - i = (80 - i) + 1 by omega, show 81 - (i + 1) = 80 - i by omega]
  show (if true = true ∧ (p_F P len i O a).2.1 < len then _ else _) = _
  rw [if_pos ⟨rfl, hg⟩, if_pos hT]
  rfl
theorem a_b0' {P : Prop} {h : Decidable P} : ((@ite Int32 P h 0 1) = 0) → P := by
  intro q
  by_cases z : P
  · exact z
  · rw [if_neg z] at q
    exact absurd q (by decide)
theorem a_b1' {P : Prop} {h : Decidable P} : ¬ ((@ite Int32 P h 0 1) = 0) → ¬ P := fun q z => q (if_pos z)
theorem Pk.begin {q len : Nat} {I : q_Mem} {P : a_A} (h : Pk q I P len) : ∃ L D S N X, Pd q (q_setA I q (upd (I q) 1 (nI 0))) P len 0 L D S N X := by
  obtain ⟨h1, h2, h3⟩ := h
  refine ⟨I q 2, I q 3, I q 4, I q 5, I q 6, ⟨h1, ?_, fun j hj => ?_⟩, ⟨Nat.zero_le _, ?_⟩, ?_, ?_, ?_, ?_, ?_⟩ <;> first | (rw [q_setA_at, q_upd_at]; done) | (rw [q_setA_at, q_upd_ne (by decide)]; done) | (rw [q_setA_at, q_upd_ne (by decide)]; assumption) | (rw [q_setA_ne (by omega)]; exact h3 j hj)
theorem Pd.k {q len a : Nat} {I : q_Mem} {P : a_A} {L D S N X : Int32} (h : Pd q I P len a L D S N X) : Pk q I P len := h.1
set_option maxRecDepth 100000 in
set_option maxHeartbeats 4000000 in
theorem s_X2_begin0 {Sh : q_Sh} {I : q_Mem} {q len : Nat} {P : a_A} (hc : gOk Sh q) (hG : Pk q I P len) : q_Rp mX2_begin 0 [.ref q] Sh (I) (fun w J => w = none ∧ (∃ L D S N X, Pd q J P len 0 L D S N X) ∧ FrP q I J) := by
  refine q_rp_of (by decide) (Nat.le_of_ble_eq_true rfl) fun Γ BM => ?_
  have B := BM.1
  show q_W Γ mX2_begin 0 0 Sh (I) 0 [(0, .ref q)] []
  refine q_aload_n B dX2_begin_0 rfl rfl ?_
  refine q_iconst (v := nI 0) B dX2_begin_1 rfl ?_
  refine q_putI2 B kC_X2 (k := 1) (by decide) rfl kf_X2_15 rfl rfl rfl hc.1 dX2_begin_2 ?_
  exact q_vret BM rfl dX2_begin_5 ⟨rfl, rfl, hG.begin, FrP.set⟩
set_option maxRecDepth 100000 in
set_option maxHeartbeats 4000000 in
theorem s_X6_fault {Sh : q_Sh} {I : q_Mem} {d len : Nat} {P O0 : a_A} (hc : dOk Sh d) (hG : Pk (d + 427) I P len) : q_Rp mX6_fault 5 [.ref d] Sh (I) (fun w J => w = some (.int (if (p_all P len O0).2.2.2 = true then -6 else nI (p_all P len O0).2.2.1)) ∧ Pk (d + 427) J P len ∧ FrP (d + 427) I J) := by
  refine q_rp_of (by decide) (Nat.le_of_ble_eq_true rfl) fun Γ BM => ?_
  have B := BM.1
  have hl := hG.1.1
  show q_W Γ mX6_fault 0 0 Sh (I) 0 [(0, .ref d)] []
  refine q_aload_n B dX6_fault_0 rfl rfl ?_
  refine q_getR B kC_X6 (k := 4) (by decide) rfl kf_X6_33 hc.1 (dpd hc) dX6_fault_1 ?_
  refine q_rpV B (s_X2_begin0 (dG hc) hG) kv_yX2_begin ki_yX2_begin ks_yX2_begin km_X6_193 rfl (ci := 2) rfl rfl (dPd hc) (by decide) rfl (Nat.le_of_ble_eq_true rfl) dX6_fault_4 (fun w0 J hx => ?_)
  obtain ⟨rfl, ⟨L0, D0, S0, N0, X0, hG0⟩, hF0⟩ := hx
  refine q_iconst (v := nI 0) B dX6_fault_7 rfl ?_
  refine q_istore_n B dX6_fault_8 rfl (Nat.le_of_ble_eq_true rfl) rfl ?_
  have hl_9 : ∀ (n i : Nat) (O : a_A) (a : Nat) (L D S N X : Int32) (J : q_Mem), i + n = 80 → (p_RS P len O0 i O a ∧ Pd (d + 427) J P len a L D S N X ∧ FrP (d + 427) I J) → q_W Γ mX6_fault 0 0 Sh J 9 [(0, .ref d), (1, .int (nI i))] [] := by
    intro n
    induction n with
    | zero =>
      intro i O a L D S N X J hin hinv
      exact absurd hinv.1.2.1 (by have := hinv.1.1; omega)
    | succ n ih =>
      intro i O a L D S N X J hin hinv
      have hiN : i < 80 := by omega
      obtain ⟨hS, hG1, hF1⟩ := hinv
      refine q_iload_n B dX6_fault_9 rfl rfl ?_
      refine q_bipush (v := nI 80) B dX6_fault_10 rfl ?_
      refine q_icmp_ge (tgt := 72) B dX6_fault_12 (by decide) (fun h => absurd h (q_nle hiN (by decide))) (fun _ => ?_)
      refine q_aload_n B dX6_fault_15 rfl rfl ?_
      refine q_getR B kC_X6 (k := 4) (by decide) rfl kf_X6_33 hc.1 (dpd hc) dX6_fault_16 ?_
      refine q_rpV B (s_X2_readOrder (n := i) (O := O) (dG hc) hG1) kv_yX2_readOrder ki_yX2_readOrder ks_yX2_readOrder km_X6_196 rfl (ci := 2) rfl rfl (dPd hc) (by decide) rfl (Nat.le_of_ble_eq_true rfl) dX6_fault_19 (fun w1 J1 hx => ?_)
      change Rq _ _ _ _ _ _ (p_F P len i O a) _ _ at hx
      obtain ⟨rfl, ⟨D1, S1, N1, X1, hG2, -⟩, hF2⟩ := hx
      have hF3 := hF1.tr hF2
      refine q_if_ne (tgt := 33) B dX6_fault_22 (by decide) (fun c_22 => ?_) (fun c_22 => ?_)
      · skip
        have e1 := b2_1 c_22
        refine q_aload_n B dX6_fault_33 rfl rfl ?_
        refine q_getR B kC_X6 (k := 4) (by decide) rfl kf_X6_33 hc.1 (dpd hc) dX6_fault_34 ?_
        refine q_rtV B (s_X2_isAtEnd (dG hc) hG2) kv_yX2_isAtEnd ki_yX2_isAtEnd ks_yX2_isAtEnd km_X6_202 rfl (ci := 2) rfl rfl (dPd hc) (by decide) rfl (Nat.le_of_ble_eq_true rfl) dX6_fault_37 ?_
        refine q_if_eq (tgt := 46) B dX6_fault_40 (by decide) (fun c_40 => ?_) (fun c_40 => ?_)
        · skip
          have e2 := a_b0' c_40
          refine q_aload_n B dX6_fault_46 rfl rfl ?_
          refine q_getR B kC_X6 (k := 4) (by decide) rfl kf_X6_33 hc.1 (dpd hc) dX6_fault_47 ?_
          refine q_bipush (v := nI 59) B dX6_fault_50 rfl ?_
          refine q_rpV B (s_X2_readSign (dG hc) hG2 (c := 59) (by decide) (by decide)) kv_yX2_readSign ki_yX2_readSign ks_yX2_readSign km_X6_205 rfl (ci := 2) rfl rfl (dPd hc) (by decide) rfl (Nat.le_of_ble_eq_true rfl) dX6_fault_52 (fun w2 J2 hx => ?_)
          obtain ⟨rfl, hG3, hF4⟩ := hx
          have hF5 := hF3.tr hF4
          refine q_if_ne (tgt := 66) B dX6_fault_55 (by decide) (fun c_55 => ?_) (fun c_55 => ?_)
          · skip
            have e3 := b2_1 c_55
            rw [e3] at hG3
            refine q_iinc2 (y := nI (i + 1)) B dX6_fault_66 rfl (q_inc1 _) (Nat.le_of_ble_eq_true rfl) rfl ?_
            refine q_goto (tgt := 9) B dX6_fault_69 (by decide) ?_
            exact q_tk (ih (i + 1) (p_F P len i O a).1 ((p_F P len i O a).2.1 + 1) _ _ _ _ _ J2 (by omega) ⟨p_RS_go hS hl e1 e2 e3, hG3, hF5⟩) rfl (q_ac rfl (q_ac rfl q_an))
          · skip
            have e3 := b2_0 c_55
            have hA := p_RS_bad hS hl e1 e2 e3
            rw [e3] at hG3
            refine q_aload_n B dX6_fault_58 rfl rfl ?_
            refine q_getR B kC_X6 (k := 4) (by decide) rfl kf_X6_33 hc.1 (dpd hc) dX6_fault_59 ?_
            refine q_getI2 B kC_X2 (k := 1) (by decide) rfl kf_X6_199 (dPd hc) hG3.2.1.2 dX6_fault_62 ?_
            exact q_iret BM rfl dX6_fault_65 ⟨rfl, by rw [hA]; rfl, hG3.k, hF5⟩
        · skip
          have e2 := a_b1' c_40
          have hA := p_RS_end hS hl e1 e2
          refine q_bipush (v := -6) B dX6_fault_43 rfl ?_
          exact q_iret BM rfl dX6_fault_45 ⟨rfl, by rw [hA]; rfl, hG2.k, hF3⟩
      · skip
        have e1 := b2_0 c_22
        have hA := p_RS_no hS e1
        refine q_aload_n B dX6_fault_25 rfl rfl ?_
        refine q_getR B kC_X6 (k := 4) (by decide) rfl kf_X6_33 hc.1 (dpd hc) dX6_fault_26 ?_
        refine q_getI2 B kC_X2 (k := 1) (by decide) rfl kf_X6_199 (dPd hc) hG2.2.1.2 dX6_fault_29 ?_
        exact q_iret BM rfl dX6_fault_32 ⟨rfl, by rw [hA]; rfl, hG2.k, hF3⟩
  exact q_tk (hl_9 80 0 O0 0 L0 D0 S0 N0 X0 J (by omega) ⟨p_RS_0, hG0, hF0⟩) rfl (q_ac rfl (q_ac rfl q_an))
