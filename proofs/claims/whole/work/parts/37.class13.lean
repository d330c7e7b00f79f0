set_option maxRecDepth 100000 in
set_option maxHeartbeats 4000000 in
theorem s_X6_undo_no {Sh : q_Sh} {I : q_Mem} {d u : Nat} {σ : a_A} {H : Nat → a_A} (hc : dOk Sh d) (hD : Ds d I σ u H) (h0 : u = 0) : q_Rt mX6_undo 3 [.ref d] Sh (I) (some (.int (-5))) (I) := by
  refine q_rt_of (by decide) (Nat.le_of_ble_eq_true rfl) fun Γ BM => ?_
  have B := BM.1
  obtain ⟨hR, n, hP⟩ := hD
  have hu := hP.2.2.1
  have hn := hP.2.2.2.1
  show q_W Γ mX6_undo 0 0 Sh (I) 0 [(0, .ref d)] []
  refine q_aload_n B dX6_undo_0 rfl rfl ?_
  refine q_getR B kC_X6 (k := 2) (by decide) rfl kf_X6_22 hc.1 (dp hc) dX6_undo_1 ?_
  refine q_getI2 B kC_X4 (k := 0) (by decide) rfl kf_X6_154 (dP hc).1 hP.1 dX6_undo_4 ?_
  refine q_if_gt (tgt := 13) B dX6_undo_7 (by decide) (fun h => absurd h ((by rw [h0]; decide))) (fun _ => ?_)
  refine q_bipush (v := -5) B dX6_undo_10 rfl ?_
  exact q_iret BM rfl dX6_undo_12 ⟨rfl, rfl, rfl⟩
set_option maxRecDepth 100000 in
set_option maxHeartbeats 4000000 in
theorem s_X6_undo_yes {Sh : q_Sh} {I : q_Mem} {d v : Nat} {σ : a_A} {H : Nat → a_A} (hc : dOk Sh d) (hD : Ds d I σ (v + 1) H) : q_Rp mX6_undo 3 [.ref d] Sh (I) (fun w J => w = some (.int (nI v)) ∧ Ds d J (H v) v H ∧ FrD d I J) := by
  refine q_rp_of (by decide) (Nat.le_of_ble_eq_true rfl) fun Γ BM => ?_
  have B := BM.1
  obtain ⟨hR, n, hP⟩ := hD
  have hu := hP.2.2.1
  have hn := hP.2.2.2.1
  have hv := hP.2.2.2.2 v (by omega)
  rw [show (n + 7 - (v + 1) + v) % 7 = (n + 6) % 7 by omega] at hv
  show q_W Γ mX6_undo 0 0 Sh (I) 0 [(0, .ref d)] []
  refine q_aload_n B dX6_undo_0 rfl rfl ?_
  refine q_getR B kC_X6 (k := 2) (by decide) rfl kf_X6_22 hc.1 (dp hc) dX6_undo_1 ?_
  refine q_getI2 B kC_X4 (k := 0) (by decide) rfl kf_X6_154 (dP hc).1 hP.1 dX6_undo_4 ?_
  refine q_if_gt (tgt := 13) B dX6_undo_7 (by decide) (fun _ => ?_) (fun h => absurd ((q_lt (a := 0) (b := v + 1) (by omega) (by omega))) h)
  refine q_aload_n B dX6_undo_13 rfl rfl ?_
  refine q_getR B kC_X6 (k := 2) (by decide) rfl kf_X6_22 hc.1 (dp hc) dX6_undo_14 ?_
  refine q_aload_n B dX6_undo_17 rfl rfl ?_
  refine q_getR B kC_X6 (k := 0) (by decide) rfl kf_X6_10 hc.1 (dn hc) dX6_undo_18 ?_
  refine q_rpV B (s_X4_takeBack (dP hc) hP.1 hP.2.1 (by omega) hn (dN hc) hv (by omega)) kv_yX4_takeBack ki_yX4_takeBack ks_yX4_takeBack km_X6_217 rfl (ci := 4) rfl rfl (dP hc).1 (by decide) rfl (Nat.le_of_ble_eq_true rfl) dX6_undo_21 (fun w0 J hx => ?_)
  obtain ⟨rfl, h1, h2⟩ := hx
  have e0 : J (d + 95) 0 = nI v := by rw [h2 _ (by omega), q_setA_at, q_upd_at]
  have e1 : J (d + 95) 1 = nI ((n + 6) % 7) := by rw [h2 _ (by omega), q_setA_at, q_upd_ne (by decide), q_upd_at]
  refine q_aload_n B dX6_undo_24 rfl rfl ?_
  refine q_getR B kC_X6 (k := 2) (by decide) rfl kf_X6_22 hc.1 (dp hc) dX6_undo_25 ?_
  refine q_getI2 B kC_X4 (k := 0) (by decide) rfl kf_X6_154 (dP hc).1 e0 dX6_undo_28 ?_
  exact q_iret BM rfl dX6_undo_31 ⟨rfl, rfl, ⟨Rc.s h1, (n + 6) % 7, e0, e1, by omega, by omega, fun i hi => by
    have := hP.2.2.2.2 i (by omega)
    rw [show (n + 7 - (v + 1) + i) % 7 = ((n + 6) % 7 + 7 - v + i) % 7 by omega] at this
    exact this.loc (fun l e1 e2 => by rw [h2 l (by omega), q_setA_ne (by omega)])⟩, fun l hl => by rw [h2 l (by omega), q_setA_ne (by omega)]⟩
set_option maxRecDepth 100000 in
set_option maxHeartbeats 4000000 in
theorem s_X6_scarcest {Sh : q_Sh} {I : q_Mem} {d u : Nat} {σ : a_A} {H : Nat → a_A} (hc : dOk Sh d) (hD : Ds d I σ u H) : q_Rt mX6_scarcest 4 [.ref d] Sh (I) (some (.int (a_scar σ))) (I) := by
  refine q_rt_of (by decide) (Nat.le_of_ble_eq_true rfl) fun Γ BM => ?_
  have B := BM.1
  obtain ⟨hR, n, hP⟩ := hD
  have hu := hP.2.2.1
  have hn := hP.2.2.2.1
  show q_W Γ mX6_scarcest 0 0 Sh (I) 0 [(0, .ref d)] []
  refine q_bipush (v := -6) B dX6_scarcest_0 rfl ?_
  refine q_istore_n B dX6_scarcest_2 rfl (Nat.le_of_ble_eq_true rfl) rfl ?_
  refine q_iconst (v := 0) B dX6_scarcest_3 rfl ?_
  refine q_istore_n B dX6_scarcest_4 rfl (Nat.le_of_ble_eq_true rfl) rfl ?_
  refine q_iconst (v := 0) B dX6_scarcest_5 rfl ?_
  refine q_istore_n B dX6_scarcest_6 rfl (Nat.le_of_ble_eq_true rfl) rfl ?_
  have hl_7 : ∀ (n i : Nat) (a c : Int32), i + n = 8 → q_fold (a_scar1 σ) i (-6, 0) = (a, c) → q_W Γ mX6_scarcest 0 0 Sh I 7 [(0, .ref d), (1, .int a), (2, .int c), (3, .int (nI i))] [] := by
    intro n
    induction n with
    | zero =>
      intro i a c hin hinv
      have hi : i = 8 := by omega
      subst hi
      refine q_iload_n B dX6_scarcest_7 rfl rfl ?_
      refine q_bipush (v := nI 8) B dX6_scarcest_8 rfl ?_
      refine q_icmp_ge (tgt := 40) B dX6_scarcest_10 (by decide) (fun _ => ?_) (fun h => absurd (q_le (Nat.le_refl 8) (by decide)) h)
      refine q_iload_n B dX6_scarcest_40 rfl rfl ?_
      exact q_iret BM rfl dX6_scarcest_41 ⟨by rw [a_scar, hinv], rfl, rfl⟩
    | succ n ih =>
      intro i a c hin hinv
      have hiN : i < 8 := by omega
      refine q_iload_n B dX6_scarcest_7 rfl rfl ?_
      refine q_bipush (v := nI 8) B dX6_scarcest_8 rfl ?_
      refine q_icmp_ge (tgt := 40) B dX6_scarcest_10 (by decide) (fun h => absurd h (q_nle hiN (by decide))) (fun _ => ?_)
      refine q_aload_n B dX6_scarcest_13 rfl rfl ?_
      refine q_getR B kC_X6 (k := 0) (by decide) rfl kf_X6_10 hc.1 (dn hc) dX6_scarcest_14 ?_
      refine q_iload_n B dX6_scarcest_17 rfl rfl ?_
      refine q_rtV B (s_X0_missingOnes (dN hc) hR hiN) kv_yX0_missingOnes ki_yX0_missingOnes ks_yX0_missingOnes km_X6_157 rfl (ci := 0) rfl rfl (dN hc).1 (by decide) rfl (Nat.le_of_ble_eq_true rfl) dX6_scarcest_18 ?_
      refine q_istore B dX6_scarcest_21 (Nat.le_of_ble_eq_true rfl) rfl ?_
      refine q_iload B dX6_scarcest_23 rfl ?_
      refine q_iload_n B dX6_scarcest_25 rfl rfl ?_
      refine q_icmp_le (tgt := 34) B dX6_scarcest_26 (by decide) (fun c_26 => ?_) (fun c_26 => ?_)
      · skip
        refine q_iinc2 (y := nI (i + 1)) B dX6_scarcest_34 rfl (q_inc1 _) (Nat.le_of_ble_eq_true rfl) rfl ?_
        refine q_goto (tgt := 7) B dX6_scarcest_37 (by decide) ?_
        first
          | exact q_tk (ih (i + 1) (a) (c) (by omega) (by show a_scar1 σ i (q_fold (a_scar1 σ) i (-6, 0)) = _; rw [hinv]; unfold a_scar1; dsimp only; rw [if_neg (Int32.not_lt.mpr c_26), if_neg (Int32.not_lt.mpr c_26)])) rfl (q_ac rfl (q_ac rfl (q_ac rfl (q_ac rfl q_an))))
          | exact q_tk (ih (i + 1) (nI i) (a_broken σ (nI i) - σ (3 + i)) (by omega) (by show a_scar1 σ i (q_fold (a_scar1 σ) i (-6, 0)) = _; rw [hinv]; unfold a_scar1; dsimp only; rw [if_pos (Int32.not_le.mp c_26), if_pos (Int32.not_le.mp c_26)])) rfl (q_ac rfl (q_ac rfl (q_ac rfl (q_ac rfl q_an))))
      · skip
        refine q_iload B dX6_scarcest_29 rfl ?_
        refine q_istore_n B dX6_scarcest_31 rfl (Nat.le_of_ble_eq_true rfl) rfl ?_
        refine q_iload_n B dX6_scarcest_32 rfl rfl ?_
        refine q_istore_n B dX6_scarcest_33 rfl (Nat.le_of_ble_eq_true rfl) rfl ?_
        refine q_iinc2 (y := nI (i + 1)) B dX6_scarcest_34 rfl (q_inc1 _) (Nat.le_of_ble_eq_true rfl) rfl ?_
        refine q_goto (tgt := 7) B dX6_scarcest_37 (by decide) ?_
        first
          | exact q_tk (ih (i + 1) (a) (c) (by omega) (by show a_scar1 σ i (q_fold (a_scar1 σ) i (-6, 0)) = _; rw [hinv]; unfold a_scar1; dsimp only; rw [if_neg (Int32.not_lt.mpr c_26), if_neg (Int32.not_lt.mpr c_26)])) rfl (q_ac rfl (q_ac rfl (q_ac rfl (q_ac rfl q_an))))
          | exact q_tk (ih (i + 1) (nI i) (a_broken σ (nI i) - σ (3 + i)) (by omega) (by show a_scar1 σ i (q_fold (a_scar1 σ) i (-6, 0)) = _; rw [hinv]; unfold a_scar1; dsimp only; rw [if_pos (Int32.not_le.mp c_26), if_pos (Int32.not_le.mp c_26)])) rfl (q_ac rfl (q_ac rfl (q_ac rfl (q_ac rfl q_an))))
  exact q_tk (hl_7 8 0 (-6) 0 (by omega) rfl) rfl (q_ac rfl (q_ac rfl (q_ac rfl (q_ac rfl q_an))))
set_option maxRecDepth 100000 in
set_option maxHeartbeats 4000000 in
theorem s_X6_repairedWith {Sh : q_Sh} {I : q_Mem} {d u : Nat} {σ : a_A} {H : Nat → a_A} (hc : dOk Sh d) (hD : Ds d I σ u H) {k c : Int32} {y : Nat} (hrf : a_refF σ k c = 0) (hy : y < 2 ^ 31) : q_Rp mX6_repairedWith 5 [.ref d, .int k, .int c, .int (nI y)] Sh (I) (fun w J => w = some (.int (a_repW σ k c y)) ∧ Fr (d + 48) I J) := by
  refine q_rp_of (by decide) (Nat.le_of_ble_eq_true rfl) fun Γ BM => ?_
  have B := BM.1
  obtain ⟨hR, n, hP⟩ := hD
  have hu := hP.2.2.1
  have hn := hP.2.2.2.1
  show q_W Γ mX6_repairedWith 0 0 Sh (I) 0 [(0, .ref d), (1, .int k), (2, .int c), (3, .int (nI y))] []
  refine q_aload_n B dX6_repairedWith_0 rfl rfl ?_
  refine q_getR B kC_X6 (k := 1) (by decide) rfl kf_X6_16 hc.1 (da hc) dX6_repairedWith_1 ?_
  refine q_aload_n B dX6_repairedWith_4 rfl rfl ?_
  refine q_getR B kC_X6 (k := 0) (by decide) rfl kf_X6_10 hc.1 (dn hc) dX6_repairedWith_5 ?_
  refine q_rpV B (s_X0_copyFrom (dA hc) (dN hc) hR (by omega)) kv_yX0_copyFrom ki_yX0_copyFrom ks_yX0_copyFrom km_X6_160 rfl (ci := 0) rfl rfl (dA hc).1 (by decide) rfl (Nat.le_of_ble_eq_true rfl) dX6_repairedWith_8 (fun w0 I1 hx => ?_)
  obtain ⟨rfl, hA, hF1⟩ := hx
  refine q_aload_n B dX6_repairedWith_11 rfl rfl ?_
  refine q_getR B kC_X6 (k := 1) (by decide) rfl kf_X6_16 hc.1 (da hc) dX6_repairedWith_12 ?_
  refine q_iload_n B dX6_repairedWith_15 rfl rfl ?_
  refine q_iload_n B dX6_repairedWith_16 rfl rfl ?_
  refine q_rpV B (s_X0_addFixer (dA hc) hA (k := k) (c := c)) kv_yX0_addFixer ki_yX0_addFixer ks_yX0_addFixer km_X6_49 rfl (ci := 0) rfl rfl (dA hc).1 (by decide) rfl (Nat.le_of_ble_eq_true rfl) dX6_repairedWith_17 (fun w1 I2 hx => ?_)
  obtain ⟨v, rfl, hxx⟩ := hx
  obtain ⟨-, rfl, hA2, hF2⟩ := hxx.resolve_left (fun q => q.1 hrf)
  refine q_pop B dX6_repairedWith_20 rfl ?_
  refine q_aload_n B dX6_repairedWith_21 rfl rfl ?_
  refine q_getR B kC_X6 (k := 1) (by decide) rfl kf_X6_16 hc.1 (da hc) dX6_repairedWith_22 ?_
  refine q_iload_n B dX6_repairedWith_25 rfl rfl ?_
  refine q_rpV B (s_X0_passMinutes (dA hc) hA2 (k := y) hy) kv_yX0_passMinutes ki_yX0_passMinutes ks_yX0_passMinutes km_X6_220 rfl (ci := 0) rfl rfl (dA hc).1 (by decide) rfl (Nat.le_of_ble_eq_true rfl) dX6_repairedWith_26 (fun w2 I3 hx => ?_)
  obtain ⟨rfl, h2, h3⟩ := hx
  exact q_iret BM rfl dX6_repairedWith_29 ⟨rfl, rfl, (hF1.tr hF2).tr h3⟩
set_option maxRecDepth 100000 in
set_option maxHeartbeats 4000000 in
theorem s_X6_withFixer {Sh : q_Sh} {I : q_Mem} {d u : Nat} {σ : a_A} {H : Nat → a_A} (hc : dOk Sh d) (hD : Ds d I σ u H) {k c m : Int32} : q_Rp mX6_withFixer 6 [.ref d, .int k, .int c, .int m] Sh (I) (fun w J => w = some (.int (a_withF σ k c m)) ∧ Fr (d + 48) I J) := by
  refine q_rp_of (by decide) (Nat.le_of_ble_eq_true rfl) fun Γ BM => ?_
  have B := BM.1
  have hD2 := hD
  obtain ⟨hR, n, hP⟩ := hD
  have hu := hP.2.2.1
  have hn := hP.2.2.2.1
  have hF2 := hR.1.1.2
  show q_W Γ mX6_withFixer 0 0 Sh (I) 0 [(0, .ref d), (1, .int k), (2, .int c), (3, .int m)] []
  refine q_iload_n B dX6_withFixer_0 rfl rfl ?_
  refine q_iload_n B dX6_withFixer_1 rfl rfl ?_
  refine q_rtS B s_X6_isFixer kv_yX6_isFixer kt_yX6_isFixer km_X6_171 rfl (by decide) rfl (Nat.le_of_ble_eq_true rfl) dX6_withFixer_2 ?_
  refine q_if_eq (tgt := 15) B dX6_withFixer_5 (by decide) (fun c_5 => ?_) (fun c_5 => ?_)
  · skip
    have h5 : a_refF σ k c = -2 := by
      by_cases z : nI 1 ≤ k ∧ k ≤ nI 63
      · exact if_pos (Or.inr (fun y => a_b0 c_5 ⟨z, y⟩))
      · exact if_pos (Or.inl z)
    have hw : a_withF σ k c m = -2 := if_pos (Or.inl h5)
    refine q_bipush (v := -2) B dX6_withFixer_15 rfl ?_
    exact q_iret BM rfl dX6_withFixer_17 ⟨rfl, by rw [hw], Fr.rf⟩
  · skip
    have hfx := a_b1 c_5
    have hno : ¬ (¬ (nI 1 ≤ k ∧ k ≤ nI 63) ∨ ¬ (nI 0 ≤ c ∧ c ≤ nI 9)) := fun q => q.elim (fun z => z hfx.1) (fun z => z hfx.2)
    refine q_iload_n B dX6_withFixer_8 rfl rfl ?_
    refine q_rtS B s_X6_isWhatIf kv_yX6_isWhatIf kt_yX6_isWhatIf km_X6_175 rfl (by decide) rfl (Nat.le_of_ble_eq_true rfl) dX6_withFixer_9 ?_
    refine q_if_ne (tgt := 18) B dX6_withFixer_12 (by decide) (fun c_12 => ?_) (fun c_12 => ?_)
    · skip
      have hm := a_b1 c_12
      refine q_aload_n B dX6_withFixer_18 rfl rfl ?_
      refine q_getR B kC_X6 (k := 0) (by decide) rfl kf_X6_10 hc.1 (dn hc) dX6_withFixer_19 ?_
      refine q_getI2 B kC_X0 (k := 2) (by decide) rfl kf_X6_145 (dN hc).1 hR.1.2.1.2.2 dX6_withFixer_22 ?_
      refine q_iconst (v := nI 5) B dX6_withFixer_25 rfl ?_
      refine q_icmp_lt (tgt := 32) B dX6_withFixer_26 (by decide) (fun c_26 => ?_) (fun c_26 => ?_)
      · skip
        have hFl : a_F σ < 5 := (nI_ltI (by omega) (by decide)).mp c_26
        have hrf : a_refF σ k c = 0 := by unfold a_refF; rw [if_neg hno, if_neg (by rw [hR.2.2.2.1.1]; exact fun q => absurd ((nI_eq (by omega) (by decide)).mp q) (by omega))]
        obtain ⟨y, hy, rfl⟩ := a_in06 (k := m) (a := nI 0) (b := nI 300) rfl rfl (by decide) ⟨Int32.le_trans (by decide) hm.1, hm.2⟩
        have hw : a_withF σ k c (nI y) = a_repW σ k c y := by unfold a_withF; rw [hrf, if_neg (fun q => q.elim (fun z => absurd z (by decide)) (fun z => z hm)), if_pos rfl, show a_n (nI y) = y from nI_clamp (by omega)]
        refine q_aload_n B dX6_withFixer_32 rfl rfl ?_
        refine q_iload_n B dX6_withFixer_33 rfl rfl ?_
        refine q_iload_n B dX6_withFixer_34 rfl rfl ?_
        refine q_iload_n B dX6_withFixer_35 rfl rfl ?_
        refine q_rpV B (s_X6_repairedWith hc hD2 hrf (y := y) (by omega)) kv_yX6_repairedWith ki_yX6_repairedWith ks_yX6_repairedWith km_X6_179 rfl (ci := 6) rfl rfl hc.1 (by decide) rfl (Nat.le_of_ble_eq_true rfl) dX6_withFixer_36 (fun w0 J hx => ?_)
        obtain ⟨rfl, h1⟩ := hx
        exact q_iret BM rfl dX6_withFixer_39 ⟨rfl, by rw [hw], h1⟩
      · skip
        have hF5 : a_F σ = 5 := by
          have : ¬ a_F σ < 5 := fun z => c_26 ((nI_ltI (by omega) (by decide)).mpr z)
          omega
        have hrf : a_refF σ k c = -4 := by unfold a_refF; rw [if_neg hno, if_pos (by rw [hR.2.2.2.1.1, hF5])]
        have hw : a_withF σ k c m = -4 := by unfold a_withF; rw [hrf, if_neg (fun q => q.elim (fun z => absurd z (by decide)) (fun z => z hm)), if_neg (by decide)]
        refine q_bipush (v := -4) B dX6_withFixer_29 rfl ?_
        exact q_iret BM rfl dX6_withFixer_31 ⟨rfl, by rw [hw], Fr.rf⟩
    · skip
      have hw : a_withF σ k c m = -2 := if_pos (Or.inr (a_b0 c_12))
      refine q_bipush (v := -2) B dX6_withFixer_15 rfl ?_
      exact q_iret BM rfl dX6_withFixer_17 ⟨rfl, by rw [hw], Fr.rf⟩
set_option maxRecDepth 100000 in
set_option maxHeartbeats 4000000 in
theorem s_X6_bestCare {Sh : q_Sh} {I : q_Mem} {d u : Nat} {σ : a_A} {H : Nat → a_A} (hc : dOk Sh d) (hD : Ds d I σ u H) {m : Int32} : q_Rp mX6_bestCare 6 [.ref d, .int m] Sh (I) (fun w J => w = some (.int (a_best σ m)) ∧ Fr (d + 48) I J) := by
  refine q_rp_of (by decide) (Nat.le_of_ble_eq_true rfl) fun Γ BM => ?_
  have B := BM.1
  have hD2 := hD
  obtain ⟨hR, n, hP⟩ := hD
  have hu := hP.2.2.1
  have hn := hP.2.2.2.1
  have hF2 := hR.1.1.2
  show q_W Γ mX6_bestCare 0 0 Sh (I) 0 [(0, .ref d), (1, .int m)] []
  refine q_iload_n B dX6_bestCare_0 rfl rfl ?_
  refine q_rtS B s_X6_isWhatIf kv_yX6_isWhatIf kt_yX6_isWhatIf km_X6_175 rfl (by decide) rfl (Nat.le_of_ble_eq_true rfl) dX6_bestCare_1 ?_
  refine q_if_ne (tgt := 10) B dX6_bestCare_4 (by decide) (fun c_4 => ?_) (fun c_4 => ?_)
  · skip
    have hm := a_b1 c_4
    refine q_aload_n B dX6_bestCare_10 rfl rfl ?_
    refine q_getR B kC_X6 (k := 0) (by decide) rfl kf_X6_10 hc.1 (dn hc) dX6_bestCare_11 ?_
    refine q_getI2 B kC_X0 (k := 2) (by decide) rfl kf_X6_145 (dN hc).1 hR.1.2.1.2.2 dX6_bestCare_14 ?_
    refine q_iconst (v := nI 5) B dX6_bestCare_17 rfl ?_
    refine q_icmp_lt (tgt := 24) B dX6_bestCare_18 (by decide) (fun c_18 => ?_) (fun c_18 => ?_)
    · skip
      have hFl : a_F σ < 5 := (nI_ltI (by omega) (by decide)).mp c_18
      have h5 : ¬ σ 2 = nI 5 := by rw [hR.2.2.2.1.1]; exact fun q => absurd ((nI_eq (by omega) (by decide)).mp q) (by omega)
      obtain ⟨y, hy, rfl⟩ := a_in06 (k := m) (a := nI 0) (b := nI 300) rfl rfl (by decide) ⟨Int32.le_trans (by decide) hm.1, hm.2⟩
      have hw : a_best σ (nI y) = (q_fold (a_best1 σ y) 9 (0, a_repW σ (nI 63) 0 y)).1 := by unfold a_best; rw [if_neg (fun q => q hm), if_neg h5, show a_n (nI y) = y from nI_clamp (by omega)]
      refine q_iconst (v := 0) B dX6_bestCare_24 rfl ?_
      refine q_istore_n B dX6_bestCare_25 rfl (Nat.le_of_ble_eq_true rfl) rfl ?_
      refine q_iconst (v := -1) B dX6_bestCare_26 rfl ?_
      refine q_istore_n B dX6_bestCare_27 rfl (Nat.le_of_ble_eq_true rfl) rfl ?_
      refine q_iconst (v := 0) B dX6_bestCare_28 rfl ?_
      refine q_istore B dX6_bestCare_29 (Nat.le_of_ble_eq_true rfl) rfl ?_
      have hl_31 : ∀ (n i : Nat) (a c : Int32) (J : q_Mem), i + n = 10 → (((i = 0 ∧ a = 0 ∧ c = -1) ∨ (∃ m, i = m + 1 ∧ q_fold (a_best1 σ y) m (0, a_repW σ (nI 63) 0 y) = (a, c))) ∧ Fr (d + 48) I J) → q_W Γ mX6_bestCare 0 0 Sh J 31 [(0, .ref d), (1, .int (nI y)), (2, .int a), (3, .int c), (4, .int (nI i))] [] := by
        intro n
        induction n with
        | zero =>
          intro i a c J hin hinv
          have hi : i = 10 := by omega
          subst hi
          obtain ⟨hi1, hF1⟩ := hinv
          obtain ⟨m, hm1, hm2⟩ := hi1.resolve_left (fun q => absurd q.1 (by decide))
          obtain rfl : m = 9 := by omega
          refine q_iload B dX6_bestCare_31 rfl ?_
          refine q_bipush (v := nI 9) B dX6_bestCare_33 rfl ?_
          refine q_icmp_gt (tgt := 67) B dX6_bestCare_35 (by decide) (fun _ => ?_) (fun h => absurd (q_lt (by omega) (by decide)) h)
          refine q_iload_n B dX6_bestCare_67 rfl rfl ?_
          exact q_iret BM rfl dX6_bestCare_68 ⟨rfl, by rw [hw, hm2], hF1⟩
        | succ n ih =>
          intro i a c J hin hinv
          have hiN : i < 10 := by omega
          obtain ⟨hi1, hF1⟩ := hinv
          have hrf : a_refF σ (nI 63) (nI i) = 0 := by unfold a_refF; rw [if_neg (fun q => q.elim (fun z => z (by decide)) (fun z => z ⟨q_le (Nat.zero_le i) (by omega), q_le (by omega) (by decide)⟩)), if_neg h5]
          obtain ⟨cc, hcc, ecc⟩ := a_rep_pos (a_comesF_W (k := nI 63) (c := nI i) hR.2.2 hFl) y
          have ecc : a_repW σ (nI 63) (nI i) y = nI cc := ecc
          refine q_iload B dX6_bestCare_31 rfl ?_
          refine q_bipush (v := nI 9) B dX6_bestCare_33 rfl ?_
          refine q_icmp_gt (tgt := 67) B dX6_bestCare_35 (by decide) (fun h => absurd h (q_nlt (by omega) (by omega))) (fun _ => ?_)
          refine q_aload_n B dX6_bestCare_38 rfl rfl ?_
          refine q_bipush (v := nI 63) B dX6_bestCare_39 rfl ?_
          refine q_iload B dX6_bestCare_41 rfl ?_
          refine q_iload_n B dX6_bestCare_43 rfl rfl ?_
          refine q_rpV B (s_X6_repairedWith hc (hD2.far hF1) hrf (y := y) (by omega)) kv_yX6_repairedWith ki_yX6_repairedWith ks_yX6_repairedWith km_X6_179 rfl (ci := 6) rfl rfl hc.1 (by decide) rfl (Nat.le_of_ble_eq_true rfl) dX6_bestCare_44 (fun w0 J2 hx => ?_)
          obtain ⟨rfl, h1⟩ := hx
          refine q_istore B dX6_bestCare_47 (Nat.le_of_ble_eq_true rfl) rfl ?_
          refine q_iload B dX6_bestCare_49 rfl ?_
          refine q_iload_n B dX6_bestCare_51 rfl rfl ?_
          refine q_icmp_le (tgt := 61) B dX6_bestCare_52 (by decide) (fun c_52 => ?_) (fun c_52 => ?_)
          · skip
            refine q_iinc2 (y := nI (i + 1)) B dX6_bestCare_61 rfl (q_inc1 _) (Nat.le_of_ble_eq_true rfl) rfl ?_
            refine q_goto (tgt := 31) B dX6_bestCare_64 (by decide) ?_
            rcases hi1 with ⟨rfl, rfl, rfl⟩ | ⟨m, rfl, hm2⟩
            · first
              | exact absurd c_52 (by rw [ecc]; exact Int32.not_le.mpr (Int32.lt_of_lt_of_le (show (-1 : Int32) < nI 0 from by decide) (q_le (Nat.zero_le cc) (by omega))))
              | exact q_tk (ih 1 (nI 0) (a_repW σ (nI 63) (nI 0) y) J2 (by omega) ⟨Or.inr ⟨0, rfl, rfl⟩, hF1.tr h1⟩) rfl (q_ac rfl (q_ac rfl (q_ac rfl (q_ac rfl (q_ac rfl q_an)))))
            · first
              | exact q_tk (ih (m + 1 + 1) (a) (c) J2 (by omega) ⟨Or.inr ⟨m + 1, rfl, by show a_best1 σ y m (q_fold (a_best1 σ y) m (0, a_repW σ (nI 63) 0 y)) = _; rw [hm2]; unfold a_best1; dsimp only; rw [if_neg (Int32.not_lt.mpr c_52), if_neg (Int32.not_lt.mpr c_52)]⟩, hF1.tr h1⟩) rfl (q_ac rfl (q_ac rfl (q_ac rfl (q_ac rfl (q_ac rfl q_an)))))
              | exact q_tk (ih (m + 1 + 1) (nI (m + 1)) (a_repW σ (nI 63) (nI (m + 1)) y) J2 (by omega) ⟨Or.inr ⟨m + 1, rfl, by show a_best1 σ y m (q_fold (a_best1 σ y) m (0, a_repW σ (nI 63) 0 y)) = _; rw [hm2]; unfold a_best1; dsimp only; rw [if_pos (Int32.not_le.mp c_52), if_pos (Int32.not_le.mp c_52)]⟩, hF1.tr h1⟩) rfl (q_ac rfl (q_ac rfl (q_ac rfl (q_ac rfl (q_ac rfl q_an)))))
          · skip
            refine q_iload B dX6_bestCare_55 rfl ?_
            refine q_istore_n B dX6_bestCare_57 rfl (Nat.le_of_ble_eq_true rfl) rfl ?_
            refine q_iload B dX6_bestCare_58 rfl ?_
            refine q_istore_n B dX6_bestCare_60 rfl (Nat.le_of_ble_eq_true rfl) rfl ?_
            refine q_iinc2 (y := nI (i + 1)) B dX6_bestCare_61 rfl (q_inc1 _) (Nat.le_of_ble_eq_true rfl) rfl ?_
            refine q_goto (tgt := 31) B dX6_bestCare_64 (by decide) ?_
            rcases hi1 with ⟨rfl, rfl, rfl⟩ | ⟨m, rfl, hm2⟩
            · first
              | exact absurd c_52 (by rw [ecc]; exact Int32.not_le.mpr (Int32.lt_of_lt_of_le (show (-1 : Int32) < nI 0 from by decide) (q_le (Nat.zero_le cc) (by omega))))
              | exact q_tk (ih 1 (nI 0) (a_repW σ (nI 63) (nI 0) y) J2 (by omega) ⟨Or.inr ⟨0, rfl, rfl⟩, hF1.tr h1⟩) rfl (q_ac rfl (q_ac rfl (q_ac rfl (q_ac rfl (q_ac rfl q_an)))))
            · first
              | exact q_tk (ih (m + 1 + 1) (a) (c) J2 (by omega) ⟨Or.inr ⟨m + 1, rfl, by show a_best1 σ y m (q_fold (a_best1 σ y) m (0, a_repW σ (nI 63) 0 y)) = _; rw [hm2]; unfold a_best1; dsimp only; rw [if_neg (Int32.not_lt.mpr c_52), if_neg (Int32.not_lt.mpr c_52)]⟩, hF1.tr h1⟩) rfl (q_ac rfl (q_ac rfl (q_ac rfl (q_ac rfl (q_ac rfl q_an)))))
              | exact q_tk (ih (m + 1 + 1) (nI (m + 1)) (a_repW σ (nI 63) (nI (m + 1)) y) J2 (by omega) ⟨Or.inr ⟨m + 1, rfl, by show a_best1 σ y m (q_fold (a_best1 σ y) m (0, a_repW σ (nI 63) 0 y)) = _; rw [hm2]; unfold a_best1; dsimp only; rw [if_pos (Int32.not_le.mp c_52), if_pos (Int32.not_le.mp c_52)]⟩, hF1.tr h1⟩) rfl (q_ac rfl (q_ac rfl (q_ac rfl (q_ac rfl (q_ac rfl q_an)))))
      exact q_tk (hl_31 10 0 0 (-1) I (by omega) ⟨Or.inl ⟨rfl, rfl, rfl⟩, Fr.rf⟩) rfl (q_ac rfl (q_ac rfl (q_ac rfl (q_ac rfl (q_ac rfl q_an)))))
    · skip
      have hF5 : a_F σ = 5 := by
        have : ¬ a_F σ < 5 := fun z => c_18 ((nI_ltI (by omega) (by decide)).mpr z)
        omega
      have hw : a_best σ m = -4 := by unfold a_best; rw [if_neg (fun q => q hm), if_pos (by rw [hR.2.2.2.1.1, hF5])]
      refine q_bipush (v := -4) B dX6_bestCare_21 rfl ?_
      exact q_iret BM rfl dX6_bestCare_23 ⟨rfl, by rw [hw], Fr.rf⟩
  · skip
    have hw : a_best σ m = -2 := if_pos (a_b0 c_4)
    refine q_bipush (v := -2) B dX6_bestCare_7 rfl ?_
    exact q_iret BM rfl dX6_bestCare_9 ⟨rfl, by rw [hw], Fr.rf⟩
set_option maxRecDepth 100000 in
set_option maxHeartbeats 4000000 in
theorem s_X6_doneIn_no {Sh : q_Sh} {I : q_Mem} {d u : Nat} {σ : a_A} {H : Nat → a_A} (hc : dOk Sh d) (hD : Ds d I σ u H) {t : Int32} (ht : ¬ (0 ≤ t ∧ t < nI (a_T σ))) : q_Rp mX6_doneIn 5 [.ref d, .int t] Sh (I) (fun w J => w = some (.int (-1)) ∧ Fr (d + 48) I J) := by
  refine q_rp_of (by decide) (Nat.le_of_ble_eq_true rfl) fun Γ BM => ?_
  have B := BM.1
  obtain ⟨hR, n, hP⟩ := hD
  have hu := hP.2.2.1
  have hn := hP.2.2.2.1
  show q_W Γ mX6_doneIn 0 0 Sh (I) 0 [(0, .ref d), (1, .int t)] []
  refine q_aload_n B dX6_doneIn_0 rfl rfl ?_
  refine q_getR B kC_X6 (k := 1) (by decide) rfl kf_X6_16 hc.1 (da hc) dX6_doneIn_1 ?_
  refine q_aload_n B dX6_doneIn_4 rfl rfl ?_
  refine q_getR B kC_X6 (k := 0) (by decide) rfl kf_X6_10 hc.1 (dn hc) dX6_doneIn_5 ?_
  refine q_rpV B (s_X0_copyFrom (dA hc) (dN hc) hR (by omega)) kv_yX0_copyFrom ki_yX0_copyFrom ks_yX0_copyFrom km_X6_160 rfl (ci := 0) rfl rfl (dA hc).1 (by decide) rfl (Nat.le_of_ble_eq_true rfl) dX6_doneIn_8 (fun w0 I1 hx => ?_)
  obtain ⟨rfl, hA, hF1⟩ := hx
  refine q_aload_n B dX6_doneIn_11 rfl rfl ?_
  refine q_getR B kC_X6 (k := 1) (by decide) rfl kf_X6_16 hc.1 (da hc) dX6_doneIn_12 ?_
  refine q_iload_n B dX6_doneIn_15 rfl rfl ?_
  refine q_rtV B (s_X0_thingAt_no (dA hc) hA.1.2.1.2.1 ht) kv_yX0_thingAt ki_yX0_thingAt ks_yX0_thingAt km_X6_62 rfl (ci := 0) rfl rfl (dA hc).1 (by decide) rfl (Nat.le_of_ble_eq_true rfl) dX6_doneIn_16 ?_
  refine q_astoreN_n B dX6_doneIn_19 rfl (Nat.le_of_ble_eq_true rfl) rfl ?_
  refine q_aloadN_n B dX6_doneIn_20 rfl rfl ?_
  refine q_ifnonnullN B dX6_doneIn_21 ?_
  refine q_iconst (v := -1) B dX6_doneIn_24 rfl ?_
  exact q_iret BM rfl dX6_doneIn_25 ⟨rfl, rfl, hF1⟩
set_option maxRecDepth 100000 in
set_option maxHeartbeats 4000000 in
theorem s_X6_doneIn_yes {Sh : q_Sh} {I : q_Mem} {d u : Nat} {σ : a_A} {H : Nat → a_A} (hc : dOk Sh d) (hD : Ds d I σ u H) {t : Nat} (ht : t < a_T σ) : q_Rp mX6_doneIn 5 [.ref d, .int (nI t)] Sh (I) (fun w J => w = some (.int (a_doneIn σ (nI t))) ∧ Fr (d + 48) I J) := by
  refine q_rp_of (by decide) (Nat.le_of_ble_eq_true rfl) fun Γ BM => ?_
  have B := BM.1
  obtain ⟨hR, n, hP⟩ := hD
  have hu := hP.2.2.1
  have hn := hP.2.2.2.1
  have hT2 := hR.1.1.1
  have hdn : a_doneIn σ (nI t) = if 500 < a_doneL t 501 0 σ then -6 else nI (a_doneL t 501 0 σ) := by
    unfold a_doneIn
    rw [if_neg (fun q => q ⟨q_le (Nat.zero_le t) (by omega), by rw [hR.2.2.1.1]; exact q_lt ht (by omega)⟩), show a_n (nI t) = t from nI_clamp (by omega)]
  show q_W Γ mX6_doneIn 0 0 Sh (I) 0 [(0, .ref d), (1, .int (nI t))] []
  refine q_aload_n B dX6_doneIn_0 rfl rfl ?_
  refine q_getR B kC_X6 (k := 1) (by decide) rfl kf_X6_16 hc.1 (da hc) dX6_doneIn_1 ?_
  refine q_aload_n B dX6_doneIn_4 rfl rfl ?_
  refine q_getR B kC_X6 (k := 0) (by decide) rfl kf_X6_10 hc.1 (dn hc) dX6_doneIn_5 ?_
  refine q_rpV B (s_X0_copyFrom (dA hc) (dN hc) hR (by omega)) kv_yX0_copyFrom ki_yX0_copyFrom ks_yX0_copyFrom km_X6_160 rfl (ci := 0) rfl rfl (dA hc).1 (by decide) rfl (Nat.le_of_ble_eq_true rfl) dX6_doneIn_8 (fun w0 I1 hx => ?_)
  obtain ⟨rfl, hA, hF1⟩ := hx
  refine q_aload_n B dX6_doneIn_11 rfl rfl ?_
  refine q_getR B kC_X6 (k := 1) (by decide) rfl kf_X6_16 hc.1 (da hc) dX6_doneIn_12 ?_
  refine q_iload_n B dX6_doneIn_15 rfl rfl ?_
  refine q_rtV B (s_X0_thingAt (dA hc) hA.1.2.1.2.1 hT2 ht) kv_yX0_thingAt ki_yX0_thingAt ks_yX0_thingAt km_X6_62 rfl (ci := 0) rfl rfl (dA hc).1 (by decide) rfl (Nat.le_of_ble_eq_true rfl) dX6_doneIn_16 ?_
  refine q_astore_n B dX6_doneIn_19 rfl (Nat.le_of_ble_eq_true rfl) rfl ?_
  refine q_aload_n B dX6_doneIn_20 rfl rfl ?_
  refine q_ifnonnull (tgt := 26) B dX6_doneIn_21 (by decide) ?_
  refine q_iconst (v := 0) B dX6_doneIn_26 rfl ?_
  refine q_istore_n B dX6_doneIn_27 rfl (Nat.le_of_ble_eq_true rfl) rfl ?_
  have hl_28 : ∀ (n i : Nat) (σ1 : a_A) (J : q_Mem), i + n = 501 → (a_doneL t n i σ1 = a_doneL t 501 0 σ ∧ Rc (a_T σ) (a_F σ) (d + 48) J σ1 ∧ Fr (d + 48) I J) → q_W Γ mX6_doneIn 0 0 Sh J 28 [(0, .ref d), (1, .int (nI t)), (2, .ref (d + 48 + 4 + t)), (3, .int (nI i))] [] := by
    intro n
    induction n with
    | zero =>
      intro i σ1 J hin hinv
      have hi : i = 501 := by omega
      subst hi
      obtain ⟨e1, hR1, hF2⟩ := hinv
      refine q_iload_n B dX6_doneIn_28 rfl rfl ?_
      refine q_sipush (v := nI 500) B dX6_doneIn_29 rfl ?_
      refine q_icmp_gt (tgt := 58) B dX6_doneIn_32 (by decide) (fun _ => ?_) (fun h => absurd (q_lt (by omega) (by decide)) h)
      refine q_bipush (v := -6) B dX6_doneIn_58 rfl ?_
      exact q_iret BM rfl dX6_doneIn_60 ⟨rfl, by rw [hdn, ← e1]; rfl, hF2⟩
    | succ n ih =>
      intro i σ1 J hin hinv
      have hiN : i < 501 := by omega
      obtain ⟨e1, hR1, hF2⟩ := hinv
      refine q_iload_n B dX6_doneIn_28 rfl rfl ?_
      refine q_sipush (v := nI 500) B dX6_doneIn_29 rfl ?_
      refine q_icmp_gt (tgt := 58) B dX6_doneIn_32 (by decide) (fun h => absurd h (q_nlt (by omega) (by omega))) (fun _ => ?_)
      refine q_aload_n B dX6_doneIn_35 rfl rfl ?_
      refine q_rtV B (s_isHereR (dA hc) hR1 ht) kv_yX5_isHere ki_yX5_isHere ks_yX5_isHere km_X6_163 rfl (ci := 5) rfl rfl (cT (dA hc) (i := t) (by omega)) (by decide) rfl (Nat.le_of_ble_eq_true rfl) dX6_doneIn_36 ?_
      refine q_if_ne (tgt := 44) B dX6_doneIn_39 (by decide) (fun c_39 => ?_) (fun c_39 => ?_)
      · skip
        have hz := a_b1 c_39
        rw [show a_doneL t (n + 1) i σ1 = a_doneL t n (i + 1) (a_minute σ1) from if_pos hz] at e1
        refine q_aload_n B dX6_doneIn_44 rfl rfl ?_
        refine q_getR B kC_X6 (k := 1) (by decide) rfl kf_X6_16 hc.1 (da hc) dX6_doneIn_45 ?_
        refine q_rpV B (s_X0_passMinute (dA hc) hR1) kv_yX0_passMinute ki_yX0_passMinute ks_yX0_passMinute km_X6_167 rfl (ci := 0) rfl rfl (dA hc).1 (by decide) rfl (Nat.le_of_ble_eq_true rfl) dX6_doneIn_48 (fun w2 J2 hx => ?_)
        obtain ⟨rfl, h1, h2⟩ := hx
        refine q_pop B dX6_doneIn_51 rfl ?_
        refine q_iinc2 (y := nI (i + 1)) B dX6_doneIn_52 rfl (q_inc1 _) (Nat.le_of_ble_eq_true rfl) rfl ?_
        refine q_goto (tgt := 28) B dX6_doneIn_55 (by decide) ?_
        exact q_tk (ih (i + 1) (a_minute σ1) J2 (by omega) ⟨e1, h1, hF2.tr h2⟩) rfl (q_ac rfl (q_ac rfl (q_ac rfl (q_ac rfl q_an))))
      · skip
        have hz := a_b0 c_39
        rw [show a_doneL t (n + 1) i σ1 = i from if_neg hz] at e1
        refine q_iload_n B dX6_doneIn_42 rfl rfl ?_
        exact q_iret BM rfl dX6_doneIn_43 ⟨rfl, by rw [hdn, ← e1, if_neg (by omega)], hF2⟩
  exact q_tk (hl_28 501 0 σ I1 (by omega) ⟨rfl, hA, hF1⟩) rfl (q_ac rfl (q_ac rfl (q_ac rfl (q_ac rfl q_an))))
