set_option maxRecDepth 100000 in
set_option maxHeartbeats 4000000 in
theorem s_X6_ofThing_no {Sh : q_Sh} {I : q_Mem} {d u : Nat} {σ : a_A} {H : Nat → a_A} (hc : dOk Sh d) (hD : Ds d I σ u H) {w t : Int32} (ht : ¬ (0 ≤ t ∧ t < nI (a_T σ))) : q_Rt mX6_ofThing 2 [.ref d, .int t, .int w] Sh (I) (some (.int (a_ofThing σ t w))) (I) := by
  refine q_rt_of (by decide) (Nat.le_of_ble_eq_true rfl) fun Γ BM => ?_
  have B := BM.1
  obtain ⟨hR, n, hP⟩ := hD
  have hu := hP.2.2.1
  have hn := hP.2.2.2.1
  show q_W Γ mX6_ofThing 0 0 Sh (I) 0 [(0, .ref d), (1, .int t), (2, .int w)] []
  refine q_aload_n B dX6_ofThing_0 rfl rfl ?_
  refine q_getR B kC_X6 (k := 0) (by decide) rfl kf_X6_10 hc.1 (dn hc) dX6_ofThing_1 ?_
  refine q_iload_n B dX6_ofThing_4 rfl rfl ?_
  refine q_rtV B (s_X0_thingAt_no (dN hc) hR.1.2.1.2.1 ht) kv_yX0_thingAt ki_yX0_thingAt ks_yX0_thingAt km_X6_62 rfl (ci := 0) rfl rfl (dN hc).1 (by decide) rfl (Nat.le_of_ble_eq_true rfl) dX6_ofThing_5 ?_
  refine q_astoreN_n B dX6_ofThing_8 rfl (Nat.le_of_ble_eq_true rfl) rfl ?_
  refine q_aloadN_n B dX6_ofThing_9 rfl rfl ?_
  refine q_ifnonnullN B dX6_ofThing_10 ?_
  refine q_iconst (v := -1) B dX6_ofThing_13 rfl ?_
  exact q_iret BM rfl dX6_ofThing_14 ⟨by rw [a_ofThing, if_pos (by rw [hR.2.2.1.1]; exact ht)], rfl, rfl⟩
set_option maxRecDepth 100000 in
set_option maxHeartbeats 4000000 in
theorem s_X6_ofThing_yes {Sh : q_Sh} {I : q_Mem} {d u : Nat} {σ : a_A} {H : Nat → a_A} (hc : dOk Sh d) (hD : Ds d I σ u H) {w : Int32} {j : Nat} (hj : j < a_T σ) : q_Rt mX6_ofThing 2 [.ref d, .int (nI j), .int w] Sh (I) (some (.int (a_ofThing σ (nI j) w))) (I) := by
  refine q_rt_of (by decide) (Nat.le_of_ble_eq_true rfl) fun Γ BM => ?_
  have B := BM.1
  obtain ⟨hR, n, hP⟩ := hD
  have hu := hP.2.2.1
  have hn := hP.2.2.2.1
  have hj2 : nI 0 ≤ nI j ∧ nI j < σ 1 := ⟨q_le (Nat.zero_le j) (by have := hR.1.1.1; omega), by rw [hR.2.2.1.1]; exact q_lt hj (by have := hR.1.1.1; omega)⟩
  have haj : a_n (nI j) = j := nI_clamp (by have := hR.1.1.1; omega)
  have hT2 := hR.1.1.1
  show q_W Γ mX6_ofThing 0 0 Sh (I) 0 [(0, .ref d), (1, .int (nI j)), (2, .int w)] []
  refine q_aload_n B dX6_ofThing_0 rfl rfl ?_
  refine q_getR B kC_X6 (k := 0) (by decide) rfl kf_X6_10 hc.1 (dn hc) dX6_ofThing_1 ?_
  refine q_iload_n B dX6_ofThing_4 rfl rfl ?_
  refine q_rtV B (s_X0_thingAt (dN hc) hR.1.2.1.2.1 hT2 hj) kv_yX0_thingAt ki_yX0_thingAt ks_yX0_thingAt km_X6_62 rfl (ci := 0) rfl rfl (dN hc).1 (by decide) rfl (Nat.le_of_ble_eq_true rfl) dX6_ofThing_5 ?_
  refine q_astore_n B dX6_ofThing_8 rfl (Nat.le_of_ble_eq_true rfl) rfl ?_
  refine q_aload_n B dX6_ofThing_9 rfl rfl ?_
  refine q_ifnonnull (tgt := 15) B dX6_ofThing_10 (by decide) ?_
  refine q_iload_n B dX6_ofThing_15 rfl rfl ?_
  
  by_cases h0 : w = nI 0
  · subst h0
    refine q_tableIn (off := 52) (tgt := 68) B dX6_ofThing_16 (by decide) (by decide) (by decide) (by decide) ?_
    refine q_aload_n B dX6_ofThing_68 rfl rfl ?_
    refine q_getI2 B kC_X5 (k := 0) (by decide) rfl kf_X6_66 (cT (dN hc) (i := j) (by omega)) ((hR.1.2.2.1 j hj).1 0 (by decide)) dX6_ofThing_69 ?_
    exact q_iret BM rfl dX6_ofThing_72 ⟨by rw [a_ofThing, if_neg (not_not_intro hj2), if_neg (show ¬ nI 0 = nI 5 from by decide), if_neg (show ¬ nI 0 = nI 6 from by decide), if_neg (show ¬ nI 0 = nI 7 from by decide), if_neg (show ¬ nI 0 = nI 8 from by decide), if_pos (by decide), haj]; rfl, rfl, rfl⟩
  by_cases h1 : w = nI 1
  · subst h1
    refine q_tableIn (off := 57) (tgt := 73) B dX6_ofThing_16 (by decide) (by decide) (by decide) (by decide) ?_
    refine q_aload_n B dX6_ofThing_73 rfl rfl ?_
    refine q_getI2 B kC_X5 (k := 1) (by decide) rfl kf_X6_72 (cT (dN hc) (i := j) (by omega)) ((hR.1.2.2.1 j hj).1 1 (by decide)) dX6_ofThing_74 ?_
    exact q_iret BM rfl dX6_ofThing_77 ⟨by rw [a_ofThing, if_neg (not_not_intro hj2), if_neg (show ¬ nI 1 = nI 5 from by decide), if_neg (show ¬ nI 1 = nI 6 from by decide), if_neg (show ¬ nI 1 = nI 7 from by decide), if_neg (show ¬ nI 1 = nI 8 from by decide), if_pos (by decide), haj]; rfl, rfl, rfl⟩
  by_cases h2 : w = nI 2
  · subst h2
    refine q_tableIn (off := 62) (tgt := 78) B dX6_ofThing_16 (by decide) (by decide) (by decide) (by decide) ?_
    refine q_aload_n B dX6_ofThing_78 rfl rfl ?_
    refine q_getI2 B kC_X5 (k := 2) (by decide) rfl kf_X6_75 (cT (dN hc) (i := j) (by omega)) ((hR.1.2.2.1 j hj).1 2 (by decide)) dX6_ofThing_79 ?_
    exact q_iret BM rfl dX6_ofThing_82 ⟨by rw [a_ofThing, if_neg (not_not_intro hj2), if_neg (show ¬ nI 2 = nI 5 from by decide), if_neg (show ¬ nI 2 = nI 6 from by decide), if_neg (show ¬ nI 2 = nI 7 from by decide), if_neg (show ¬ nI 2 = nI 8 from by decide), if_pos (by decide), haj]; rfl, rfl, rfl⟩
  by_cases h3 : w = nI 3
  · subst h3
    refine q_tableIn (off := 67) (tgt := 83) B dX6_ofThing_16 (by decide) (by decide) (by decide) (by decide) ?_
    refine q_aload_n B dX6_ofThing_83 rfl rfl ?_
    refine q_getI2 B kC_X5 (k := 3) (by decide) rfl kf_X6_78 (cT (dN hc) (i := j) (by omega)) ((hR.1.2.2.1 j hj).1 3 (by decide)) dX6_ofThing_84 ?_
    exact q_iret BM rfl dX6_ofThing_87 ⟨by rw [a_ofThing, if_neg (not_not_intro hj2), if_neg (show ¬ nI 3 = nI 5 from by decide), if_neg (show ¬ nI 3 = nI 6 from by decide), if_neg (show ¬ nI 3 = nI 7 from by decide), if_neg (show ¬ nI 3 = nI 8 from by decide), if_pos (by decide), haj]; rfl, rfl, rfl⟩
  by_cases h4 : w = nI 4
  · subst h4
    refine q_tableIn (off := 72) (tgt := 88) B dX6_ofThing_16 (by decide) (by decide) (by decide) (by decide) ?_
    refine q_aload_n B dX6_ofThing_88 rfl rfl ?_
    refine q_getI2 B kC_X5 (k := 4) (by decide) rfl kf_X6_81 (cT (dN hc) (i := j) (by omega)) ((hR.1.2.2.1 j hj).1 4 (by decide)) dX6_ofThing_89 ?_
    exact q_iret BM rfl dX6_ofThing_92 ⟨by rw [a_ofThing, if_neg (not_not_intro hj2), if_neg (show ¬ nI 4 = nI 5 from by decide), if_neg (show ¬ nI 4 = nI 6 from by decide), if_neg (show ¬ nI 4 = nI 7 from by decide), if_neg (show ¬ nI 4 = nI 8 from by decide), if_pos (by decide), haj]; rfl, rfl, rfl⟩
  by_cases h5 : w = nI 5
  · subst h5
    refine q_tableIn (off := 77) (tgt := 93) B dX6_ofThing_16 (by decide) (by decide) (by decide) (by decide) ?_
    refine q_aload_n B dX6_ofThing_93 rfl rfl ?_
    refine q_getI2 B kC_X5 (k := 5) (by decide) rfl kf_X6_84 (cT (dN hc) (i := j) (by omega)) (hR.2.1 j hj) dX6_ofThing_94 ?_
    exact q_iret BM rfl dX6_ofThing_97 ⟨by rw [a_ofThing, if_neg (not_not_intro hj2), if_pos rfl], rfl, rfl⟩
  by_cases h6 : w = nI 6
  · subst h6
    refine q_tableIn (off := 82) (tgt := 98) B dX6_ofThing_16 (by decide) (by decide) (by decide) (by decide) ?_
    refine q_aload_n B dX6_ofThing_98 rfl rfl ?_
    refine q_getI2 B kC_X5 (k := 6) (by decide) rfl kf_X6_87 (cT (dN hc) (i := j) (by omega)) (hR.1.2.2.1 j hj).2.1 dX6_ofThing_99 ?_
    exact q_iret BM rfl dX6_ofThing_102 ⟨by rw [a_ofThing, if_neg (not_not_intro hj2), if_neg (show ¬ nI 6 = nI 5 from by decide), if_pos rfl, haj], rfl, rfl⟩
  by_cases h7 : w = nI 7
  · subst h7
    refine q_tableIn (off := 87) (tgt := 103) B dX6_ofThing_16 (by decide) (by decide) (by decide) (by decide) ?_
    refine q_aload_n B dX6_ofThing_103 rfl rfl ?_
    refine q_getI2 B kC_X5 (k := 7) (by decide) rfl kf_X6_90 (cT (dN hc) (i := j) (by omega)) (hR.1.2.2.1 j hj).2.2 dX6_ofThing_104 ?_
    exact q_iret BM rfl dX6_ofThing_107 ⟨by rw [a_ofThing, if_neg (not_not_intro hj2), if_neg (show ¬ nI 7 = nI 5 from by decide), if_neg (show ¬ nI 7 = nI 6 from by decide), if_pos rfl, haj], rfl, rfl⟩
  by_cases h8 : w = nI 8
  · subst h8
    refine q_tableIn (off := 92) (tgt := 108) B dX6_ofThing_16 (by decide) (by decide) (by decide) (by decide) ?_
    refine q_aload_n B dX6_ofThing_108 rfl rfl ?_
    refine q_getR B kC_X6 (k := 0) (by decide) rfl kf_X6_10 hc.1 (dn hc) dX6_ofThing_109 ?_
    refine q_iload_n B dX6_ofThing_112 rfl rfl ?_
    refine q_rtV B (s_X0_placeOf (dN hc) hR hj) kv_yX0_placeOf ki_yX0_placeOf ks_yX0_placeOf km_X6_93 rfl (ci := 0) rfl rfl (dN hc).1 (by decide) rfl (Nat.le_of_ble_eq_true rfl) dX6_ofThing_113 ?_
    exact q_iret BM rfl dX6_ofThing_116 ⟨by rw [a_ofThing, if_neg (not_not_intro hj2), if_neg (show ¬ nI 8 = nI 5 from by decide), if_neg (show ¬ nI 8 = nI 6 from by decide), if_neg (show ¬ nI 8 = nI 7 from by decide), if_pos rfl, haj], rfl, rfl⟩
  refine q_tableOut (tgt := 117) B dX6_ofThing_16 (a_tout (lo := 0) (hi := 8) (fun j h1 h2 => by rcases (show j = 0 ∨ j = 1 ∨ j = 2 ∨ j = 3 ∨ j = 4 ∨ j = 5 ∨ j = 6 ∨ j = 7 ∨ j = 8 by omega) with rfl | rfl | rfl | rfl | rfl | rfl | rfl | rfl | rfl <;> assumption) (by decide)) (by decide) ?_
  refine q_bipush (v := -2) B dX6_ofThing_117 rfl ?_
  exact q_iret BM rfl dX6_ofThing_119 ⟨by rw [a_ofThing, if_neg (not_not_intro hj2), if_neg h5, if_neg h6, if_neg h7, if_neg h8, if_neg (fun q => by obtain ⟨x, hx, ex⟩ := a_in06 rfl rfl (by decide) q; rcases (show x = 0 ∨ x = 1 ∨ x = 2 ∨ x = 3 ∨ x = 4 by omega) with rfl | rfl | rfl | rfl | rfl <;> contradiction)], rfl, rfl⟩
set_option maxRecDepth 100000 in
set_option maxHeartbeats 4000000 in
theorem s_X6_ofFixer_no {Sh : q_Sh} {I : q_Mem} {d u : Nat} {σ : a_A} {H : Nat → a_A} (hc : dOk Sh d) (hD : Ds d I σ u H) {w f : Int32} (ht : ¬ (0 ≤ f ∧ f < nI (a_F σ))) : q_Rt mX6_ofFixer 2 [.ref d, .int f, .int w] Sh (I) (some (.int (a_ofFixer σ f w))) (I) := by
  refine q_rt_of (by decide) (Nat.le_of_ble_eq_true rfl) fun Γ BM => ?_
  have B := BM.1
  obtain ⟨hR, n, hP⟩ := hD
  have hu := hP.2.2.1
  have hn := hP.2.2.2.1
  show q_W Γ mX6_ofFixer 0 0 Sh (I) 0 [(0, .ref d), (1, .int f), (2, .int w)] []
  refine q_aload_n B dX6_ofFixer_0 rfl rfl ?_
  refine q_getR B kC_X6 (k := 0) (by decide) rfl kf_X6_10 hc.1 (dn hc) dX6_ofFixer_1 ?_
  refine q_iload_n B dX6_ofFixer_4 rfl rfl ?_
  refine q_rtV B (s_X0_fixerAt_no (dN hc) hR.1.2.1.2.2 ht) kv_yX0_fixerAt ki_yX0_fixerAt ks_yX0_fixerAt km_X6_96 rfl (ci := 0) rfl rfl (dN hc).1 (by decide) rfl (Nat.le_of_ble_eq_true rfl) dX6_ofFixer_5 ?_
  refine q_astoreN_n B dX6_ofFixer_8 rfl (Nat.le_of_ble_eq_true rfl) rfl ?_
  refine q_aloadN_n B dX6_ofFixer_9 rfl rfl ?_
  refine q_ifnonnullN B dX6_ofFixer_10 ?_
  refine q_iconst (v := -1) B dX6_ofFixer_13 rfl ?_
  exact q_iret BM rfl dX6_ofFixer_14 ⟨by rw [a_ofFixer, if_pos (by rw [hR.2.2.2.1.1]; exact ht)], rfl, rfl⟩
set_option maxRecDepth 100000 in
set_option maxHeartbeats 4000000 in
theorem s_X6_ofFixer_yes {Sh : q_Sh} {I : q_Mem} {d u : Nat} {σ : a_A} {H : Nat → a_A} (hc : dOk Sh d) (hD : Ds d I σ u H) {w : Int32} {j : Nat} (hj : j < a_F σ) : q_Rt mX6_ofFixer 2 [.ref d, .int (nI j), .int w] Sh (I) (some (.int (a_ofFixer σ (nI j) w))) (I) := by
  refine q_rt_of (by decide) (Nat.le_of_ble_eq_true rfl) fun Γ BM => ?_
  have B := BM.1
  obtain ⟨hR, n, hP⟩ := hD
  have hu := hP.2.2.1
  have hn := hP.2.2.2.1
  have hj2 : nI 0 ≤ nI j ∧ nI j < σ 2 := ⟨q_le (Nat.zero_le j) (by have := hR.1.1.2; omega), by rw [hR.2.2.2.1.1]; exact q_lt hj (by have := hR.1.1.2; omega)⟩
  have haj : a_n (nI j) = j := nI_clamp (by have := hR.1.1.2; omega)
  have hF2 := hR.1.1.2
  obtain ⟨f0, f1, f2, f3, f4, f5⟩ := hR.1.2.2.2.1 j hj
  show q_W Γ mX6_ofFixer 0 0 Sh (I) 0 [(0, .ref d), (1, .int (nI j)), (2, .int w)] []
  refine q_aload_n B dX6_ofFixer_0 rfl rfl ?_
  refine q_getR B kC_X6 (k := 0) (by decide) rfl kf_X6_10 hc.1 (dn hc) dX6_ofFixer_1 ?_
  refine q_iload_n B dX6_ofFixer_4 rfl rfl ?_
  refine q_rtV B (s_X0_fixerAt (dN hc) hR.1.2.1.2.2 hF2 hj) kv_yX0_fixerAt ki_yX0_fixerAt ks_yX0_fixerAt km_X6_96 rfl (ci := 0) rfl rfl (dN hc).1 (by decide) rfl (Nat.le_of_ble_eq_true rfl) dX6_ofFixer_5 ?_
  refine q_astore_n B dX6_ofFixer_8 rfl (Nat.le_of_ble_eq_true rfl) rfl ?_
  refine q_aload_n B dX6_ofFixer_9 rfl rfl ?_
  refine q_ifnonnull (tgt := 15) B dX6_ofFixer_10 (by decide) ?_
  refine q_iload_n B dX6_ofFixer_15 rfl rfl ?_
  
  by_cases h0 : w = nI 0
  · subst h0
    refine q_tableIn (off := 44) (tgt := 60) B dX6_ofFixer_16 (by decide) (by decide) (by decide) (by decide) ?_
    refine q_aload_n B dX6_ofFixer_60 rfl rfl ?_
    refine q_getI2 B kC_X1 (k := 0) (by decide) rfl kf_X6_100 (cF (dN hc) (i := j) (by omega)) f0 dX6_ofFixer_61 ?_
    exact q_iret BM rfl dX6_ofFixer_64 ⟨by rw [a_ofFixer, if_neg (not_not_intro hj2), if_neg (show ¬ nI 0 = nI 2 from by decide), if_neg (show ¬ nI 0 = nI 6 from by decide), if_pos (by decide), haj]; rfl, rfl, rfl⟩
  by_cases h1 : w = nI 1
  · subst h1
    refine q_tableIn (off := 49) (tgt := 65) B dX6_ofFixer_16 (by decide) (by decide) (by decide) (by decide) ?_
    refine q_aload_n B dX6_ofFixer_65 rfl rfl ?_
    refine q_getI2 B kC_X1 (k := 1) (by decide) rfl kf_X6_105 (cF (dN hc) (i := j) (by omega)) f1 dX6_ofFixer_66 ?_
    exact q_iret BM rfl dX6_ofFixer_69 ⟨by rw [a_ofFixer, if_neg (not_not_intro hj2), if_neg (show ¬ nI 1 = nI 2 from by decide), if_neg (show ¬ nI 1 = nI 6 from by decide), if_pos (by decide), haj]; rfl, rfl, rfl⟩
  by_cases h2 : w = nI 2
  · subst h2
    refine q_tableIn (off := 54) (tgt := 70) B dX6_ofFixer_16 (by decide) (by decide) (by decide) (by decide) ?_
    refine q_aload_n B dX6_ofFixer_70 rfl rfl ?_
    refine q_getI2 B kC_X1 (k := 2) (by decide) rfl kf_X6_108 (cF (dN hc) (i := j) (by omega)) f2 dX6_ofFixer_71 ?_
    exact q_iret BM rfl dX6_ofFixer_74 ⟨by rw [a_ofFixer, if_neg (not_not_intro hj2), if_pos rfl, haj]; rfl, rfl, rfl⟩
  by_cases h3 : w = nI 3
  · subst h3
    refine q_tableIn (off := 59) (tgt := 75) B dX6_ofFixer_16 (by decide) (by decide) (by decide) (by decide) ?_
    refine q_aload_n B dX6_ofFixer_75 rfl rfl ?_
    refine q_getI2 B kC_X1 (k := 3) (by decide) rfl kf_X6_111 (cF (dN hc) (i := j) (by omega)) f3 dX6_ofFixer_76 ?_
    exact q_iret BM rfl dX6_ofFixer_79 ⟨by rw [a_ofFixer, if_neg (not_not_intro hj2), if_neg (show ¬ nI 3 = nI 2 from by decide), if_neg (show ¬ nI 3 = nI 6 from by decide), if_pos (by decide), haj]; rfl, rfl, rfl⟩
  by_cases h4 : w = nI 4
  · subst h4
    refine q_tableIn (off := 64) (tgt := 80) B dX6_ofFixer_16 (by decide) (by decide) (by decide) (by decide) ?_
    refine q_aload_n B dX6_ofFixer_80 rfl rfl ?_
    refine q_getI2 B kC_X1 (k := 4) (by decide) rfl kf_X6_114 (cF (dN hc) (i := j) (by omega)) f4 dX6_ofFixer_81 ?_
    exact q_iret BM rfl dX6_ofFixer_84 ⟨by rw [a_ofFixer, if_neg (not_not_intro hj2), if_neg (show ¬ nI 4 = nI 2 from by decide), if_neg (show ¬ nI 4 = nI 6 from by decide), if_pos (by decide), haj]; rfl, rfl, rfl⟩
  by_cases h5 : w = nI 5
  · subst h5
    refine q_tableIn (off := 69) (tgt := 85) B dX6_ofFixer_16 (by decide) (by decide) (by decide) (by decide) ?_
    refine q_aload_n B dX6_ofFixer_85 rfl rfl ?_
    refine q_getI2 B kC_X1 (k := 5) (by decide) rfl kf_X6_117 (cF (dN hc) (i := j) (by omega)) f5 dX6_ofFixer_86 ?_
    exact q_iret BM rfl dX6_ofFixer_89 ⟨by rw [a_ofFixer, if_neg (not_not_intro hj2), if_neg (show ¬ nI 5 = nI 2 from by decide), if_neg (show ¬ nI 5 = nI 6 from by decide), if_pos (by decide), haj]; rfl, rfl, rfl⟩
  by_cases h6 : w = nI 6
  · subst h6
    refine q_tableIn (off := 74) (tgt := 90) B dX6_ofFixer_16 (by decide) (by decide) (by decide) (by decide) ?_
    refine q_aload_n B dX6_ofFixer_90 rfl rfl ?_
    refine q_getR B kC_X6 (k := 0) (by decide) rfl kf_X6_10 hc.1 (dn hc) dX6_ofFixer_91 ?_
    refine q_aload_n B dX6_ofFixer_94 rfl rfl ?_
    refine q_getI2 B kC_X1 (k := 0) (by decide) rfl kf_X6_100 (cF (dN hc) (i := j) (by omega)) f0 dX6_ofFixer_95 ?_
    refine q_rtV B (s_X0_nextOf (dN hc) hR) kv_yX0_nextOf ki_yX0_nextOf ks_yX0_nextOf km_X6_120 rfl (ci := 0) rfl rfl (dN hc).1 (by decide) rfl (Nat.le_of_ble_eq_true rfl) dX6_ofFixer_98 ?_
    exact q_iret BM rfl dX6_ofFixer_101 ⟨by rw [a_ofFixer, if_neg (not_not_intro hj2), if_neg (show ¬ nI 6 = nI 2 from by decide), if_pos rfl, haj], rfl, rfl⟩
  refine q_tableOut (tgt := 102) B dX6_ofFixer_16 (a_tout (lo := 0) (hi := 6) (fun j h1 h2 => by rcases (show j = 0 ∨ j = 1 ∨ j = 2 ∨ j = 3 ∨ j = 4 ∨ j = 5 ∨ j = 6 by omega) with rfl | rfl | rfl | rfl | rfl | rfl | rfl <;> assumption) (by decide)) (by decide) ?_
  refine q_bipush (v := -2) B dX6_ofFixer_102 rfl ?_
  exact q_iret BM rfl dX6_ofFixer_104 ⟨by rw [a_ofFixer, if_neg (not_not_intro hj2), if_neg h2, if_neg h6, if_neg (fun q => by obtain ⟨x, hx, ex⟩ := a_in06 rfl rfl (by decide) q; rcases (show x = 0 ∨ x = 1 ∨ x = 2 ∨ x = 3 ∨ x = 4 ∨ x = 5 by omega) with rfl | rfl | rfl | rfl | rfl | rfl <;> contradiction)], rfl, rfl⟩
set_option maxRecDepth 100000 in
set_option maxHeartbeats 4000000 in
theorem s_X6_ofPart_no {Sh : q_Sh} {I : q_Mem} {d u : Nat} {σ : a_A} {H : Nat → a_A} (hc : dOk Sh d) (hD : Ds d I σ u H) {w p : Int32} (hp : ¬ (0 ≤ p ∧ p ≤ nI 7)) : q_Rt mX6_ofPart 2 [.ref d, .int p, .int w] Sh (I) (some (.int (a_ofPart σ p w))) (I) := by
  refine q_rt_of (by decide) (Nat.le_of_ble_eq_true rfl) fun Γ BM => ?_
  have B := BM.1
  obtain ⟨hR, n, hP⟩ := hD
  have hu := hP.2.2.1
  have hn := hP.2.2.2.1
  show q_W Γ mX6_ofPart 0 0 Sh (I) 0 [(0, .ref d), (1, .int p), (2, .int w)] []
  refine q_aload_n B dX6_ofPart_0 rfl rfl ?_
  refine q_getR B kC_X6 (k := 0) (by decide) rfl kf_X6_10 hc.1 (dn hc) dX6_ofPart_1 ?_
  refine q_iload_n B dX6_ofPart_4 rfl rfl ?_
  refine q_rtV B (s_X0_partAt_no (dN hc) hp) kv_yX0_partAt ki_yX0_partAt ks_yX0_partAt km_X6_123 rfl (ci := 0) rfl rfl (dN hc).1 (by decide) rfl (Nat.le_of_ble_eq_true rfl) dX6_ofPart_5 ?_
  refine q_astoreN_n B dX6_ofPart_8 rfl (Nat.le_of_ble_eq_true rfl) rfl ?_
  refine q_aloadN_n B dX6_ofPart_9 rfl rfl ?_
  refine q_ifnonnullN B dX6_ofPart_10 ?_
  refine q_iconst (v := -1) B dX6_ofPart_13 rfl ?_
  exact q_iret BM rfl dX6_ofPart_14 ⟨by rw [a_ofPart, if_pos (show ¬ (nI 0 ≤ p ∧ p ≤ nI 7) from hp)], rfl, rfl⟩
set_option maxRecDepth 100000 in
set_option maxHeartbeats 4000000 in
theorem s_X6_ofPart_yes {Sh : q_Sh} {I : q_Mem} {d u : Nat} {σ : a_A} {H : Nat → a_A} (hc : dOk Sh d) (hD : Ds d I σ u H) {w : Int32} {j : Nat} (hj : j < 8) : q_Rt mX6_ofPart 2 [.ref d, .int (nI j), .int w] Sh (I) (some (.int (a_ofPart σ (nI j) w))) (I) := by
  refine q_rt_of (by decide) (Nat.le_of_ble_eq_true rfl) fun Γ BM => ?_
  have B := BM.1
  obtain ⟨hR, n, hP⟩ := hD
  have hu := hP.2.2.1
  have hn := hP.2.2.2.1
  have hj2 : nI 0 ≤ nI j ∧ nI j ≤ nI 7 := ⟨q_le (Nat.zero_le j) (by omega), q_le (by omega) (by decide)⟩
  have haj : a_n (nI j) = j := nI_clamp (by omega)
  obtain ⟨p0, p1, p2⟩ := hR.1.2.2.2.2 j hj
  show q_W Γ mX6_ofPart 0 0 Sh (I) 0 [(0, .ref d), (1, .int (nI j)), (2, .int w)] []
  refine q_aload_n B dX6_ofPart_0 rfl rfl ?_
  refine q_getR B kC_X6 (k := 0) (by decide) rfl kf_X6_10 hc.1 (dn hc) dX6_ofPart_1 ?_
  refine q_iload_n B dX6_ofPart_4 rfl rfl ?_
  refine q_rtV B (s_X0_partAt (dN hc) hj) kv_yX0_partAt ki_yX0_partAt ks_yX0_partAt km_X6_123 rfl (ci := 0) rfl rfl (dN hc).1 (by decide) rfl (Nat.le_of_ble_eq_true rfl) dX6_ofPart_5 ?_
  refine q_astore_n B dX6_ofPart_8 rfl (Nat.le_of_ble_eq_true rfl) rfl ?_
  refine q_aload_n B dX6_ofPart_9 rfl rfl ?_
  refine q_ifnonnull (tgt := 15) B dX6_ofPart_10 (by decide) ?_
  refine q_iload_n B dX6_ofPart_15 rfl rfl ?_
  
  by_cases h0 : w = nI 0
  · subst h0
    refine q_tableIn (off := 32) (tgt := 48) B dX6_ofPart_16 (by decide) (by decide) (by decide) (by decide) ?_
    refine q_aload_n B dX6_ofPart_48 rfl rfl ?_
    refine q_getI2 B kC_X3 (k := 0) (by decide) rfl kf_X6_127 (cP (dN hc) (i := j) hj) p0 dX6_ofPart_49 ?_
    exact q_iret BM rfl dX6_ofPart_52 ⟨by rw [a_ofPart, if_neg (not_not_intro hj2), if_pos rfl, haj], rfl, rfl⟩
  by_cases h1 : w = nI 1
  · subst h1
    refine q_tableIn (off := 37) (tgt := 53) B dX6_ofPart_16 (by decide) (by decide) (by decide) (by decide) ?_
    refine q_aload_n B dX6_ofPart_53 rfl rfl ?_
    refine q_getR B kC_X6 (k := 0) (by decide) rfl kf_X6_10 hc.1 (dn hc) dX6_ofPart_54 ?_
    refine q_iload_n B dX6_ofPart_57 rfl rfl ?_
    refine q_rtV B (s_X0_brokenOnes (dN hc) hR) kv_yX0_brokenOnes ki_yX0_brokenOnes ks_yX0_brokenOnes km_X6_132 rfl (ci := 0) rfl rfl (dN hc).1 (by decide) rfl (Nat.le_of_ble_eq_true rfl) dX6_ofPart_58 ?_
    exact q_iret BM rfl dX6_ofPart_61 ⟨by rw [a_ofPart, if_neg (not_not_intro hj2), if_neg (show ¬ nI 1 = nI 0 from by decide), if_pos rfl], rfl, rfl⟩
  by_cases h2 : w = nI 2
  · subst h2
    refine q_tableIn (off := 46) (tgt := 62) B dX6_ofPart_16 (by decide) (by decide) (by decide) (by decide) ?_
    refine q_aload_n B dX6_ofPart_62 rfl rfl ?_
    refine q_getI2 B kC_X3 (k := 1) (by decide) rfl kf_X6_135 (cP (dN hc) (i := j) hj) p1 dX6_ofPart_63 ?_
    exact q_iret BM rfl dX6_ofPart_66 ⟨by rw [a_ofPart, if_neg (not_not_intro hj2), if_neg (show ¬ nI 2 = nI 0 from by decide), if_neg (show ¬ nI 2 = nI 1 from by decide), if_pos rfl, haj], rfl, rfl⟩
  by_cases h3 : w = nI 3
  · subst h3
    refine q_tableIn (off := 51) (tgt := 67) B dX6_ofPart_16 (by decide) (by decide) (by decide) (by decide) ?_
    refine q_aload_n B dX6_ofPart_67 rfl rfl ?_
    refine q_getI2 B kC_X3 (k := 2) (by decide) rfl kf_X6_136 (cP (dN hc) (i := j) hj) p2 dX6_ofPart_68 ?_
    exact q_iret BM rfl dX6_ofPart_71 ⟨by rw [a_ofPart, if_neg (not_not_intro hj2), if_neg (show ¬ nI 3 = nI 0 from by decide), if_neg (show ¬ nI 3 = nI 1 from by decide), if_neg (show ¬ nI 3 = nI 2 from by decide), if_pos rfl, haj], rfl, rfl⟩
  refine q_tableOut (tgt := 72) B dX6_ofPart_16 (a_tout (lo := 0) (hi := 3) (fun j h1 h2 => by rcases (show j = 0 ∨ j = 1 ∨ j = 2 ∨ j = 3 by omega) with rfl | rfl | rfl | rfl <;> assumption) (by decide)) (by decide) ?_
  refine q_bipush (v := -2) B dX6_ofPart_72 rfl ?_
  exact q_iret BM rfl dX6_ofPart_74 ⟨by rw [a_ofPart, if_neg (not_not_intro hj2), if_neg h0, if_neg h1, if_neg h2, if_neg h3], rfl, rfl⟩
set_option maxRecDepth 100000 in
set_option maxHeartbeats 4000000 in
theorem s_X6_count {Sh : q_Sh} {I : q_Mem} {d u : Nat} {σ : a_A} {H : Nat → a_A} (hc : dOk Sh d) (hD : Ds d I σ u H) {w : Int32} {ob : a_A} (hl8 : I (d + 427) 0 = ob 8) (hu4 : ob 4 = nI u) : q_Rt mX6_count 2 [.ref d, .int w] Sh (I) (some (.int (a_count ob σ w))) (I) := by
  refine q_rt_of (by decide) (Nat.le_of_ble_eq_true rfl) fun Γ BM => ?_
  have B := BM.1
  obtain ⟨hR, n, hP⟩ := hD
  have hu := hP.2.2.1
  have hn := hP.2.2.2.1
  show q_W Γ mX6_count 0 0 Sh (I) 0 [(0, .ref d), (1, .int w)] []
  refine q_iload_n B dX6_count_0 rfl rfl ?_
  
  by_cases h0 : w = nI 0
  · subst h0
    refine q_tableIn (off := 55) (tgt := 56) B dX6_count_1 (by decide) (by decide) (by decide) (by decide) ?_
    refine q_aload_n B dX6_count_56 rfl rfl ?_
    refine q_getR B kC_X6 (k := 0) (by decide) rfl kf_X6_10 hc.1 (dn hc) dX6_count_57 ?_
    refine q_getI2 B kC_X0 (k := 0) (by decide) rfl kf_X6_139 (dN hc).1 hR.1.2.1.1 dX6_count_60 ?_
    exact q_iret BM rfl dX6_count_63 ⟨by rw [a_count, if_neg (show ¬ nI 0 = nI 8 from by decide), if_neg (show ¬ nI 0 = nI 9 from by decide), if_pos (by decide)]; rfl, rfl, rfl⟩
  by_cases h1 : w = nI 1
  · subst h1
    refine q_tableIn (off := 63) (tgt := 64) B dX6_count_1 (by decide) (by decide) (by decide) (by decide) ?_
    refine q_aload_n B dX6_count_64 rfl rfl ?_
    refine q_getR B kC_X6 (k := 0) (by decide) rfl kf_X6_10 hc.1 (dn hc) dX6_count_65 ?_
    refine q_getI2 B kC_X0 (k := 1) (by decide) rfl kf_X6_142 (dN hc).1 (hR.1.2.1.2.1.trans hR.2.2.1.1.symm) dX6_count_68 ?_
    exact q_iret BM rfl dX6_count_71 ⟨by rw [a_count, if_neg (show ¬ nI 1 = nI 8 from by decide), if_neg (show ¬ nI 1 = nI 9 from by decide), if_pos (by decide)]; rfl, rfl, rfl⟩
  by_cases h2 : w = nI 2
  · subst h2
    refine q_tableIn (off := 71) (tgt := 72) B dX6_count_1 (by decide) (by decide) (by decide) (by decide) ?_
    refine q_aload_n B dX6_count_72 rfl rfl ?_
    refine q_getR B kC_X6 (k := 0) (by decide) rfl kf_X6_10 hc.1 (dn hc) dX6_count_73 ?_
    refine q_getI2 B kC_X0 (k := 2) (by decide) rfl kf_X6_145 (dN hc).1 (hR.1.2.1.2.2.trans hR.2.2.2.1.1.symm) dX6_count_76 ?_
    exact q_iret BM rfl dX6_count_79 ⟨by rw [a_count, if_neg (show ¬ nI 2 = nI 8 from by decide), if_neg (show ¬ nI 2 = nI 9 from by decide), if_pos (by decide)]; rfl, rfl, rfl⟩
  by_cases h3 : w = nI 3
  · subst h3
    refine q_tableIn (off := 79) (tgt := 80) B dX6_count_1 (by decide) (by decide) (by decide) (by decide) ?_
    refine q_aload_n B dX6_count_80 rfl rfl ?_
    refine q_getR B kC_X6 (k := 0) (by decide) rfl kf_X6_10 hc.1 (dn hc) dX6_count_81 ?_
    refine q_iconst (v := nI 0) B dX6_count_84 rfl ?_
    refine q_rtV B (s_X0_thingsThatAre (dN hc) hR) kv_yX0_thingsThatAre ki_yX0_thingsThatAre ks_yX0_thingsThatAre km_X6_148 rfl (ci := 0) rfl rfl (dN hc).1 (by decide) rfl (Nat.le_of_ble_eq_true rfl) dX6_count_85 ?_
    exact q_iret BM rfl dX6_count_88 ⟨by rw [a_count, if_neg (show ¬ nI 3 = nI 8 from by decide), if_neg (show ¬ nI 3 = nI 9 from by decide), if_neg (by decide), if_pos (by decide), show nI 3 - nI 3 = nI 0 from by decide], rfl, rfl⟩
  by_cases h4 : w = nI 4
  · subst h4
    refine q_tableIn (off := 88) (tgt := 89) B dX6_count_1 (by decide) (by decide) (by decide) (by decide) ?_
    refine q_aload_n B dX6_count_89 rfl rfl ?_
    refine q_getR B kC_X6 (k := 0) (by decide) rfl kf_X6_10 hc.1 (dn hc) dX6_count_90 ?_
    refine q_iconst (v := nI 1) B dX6_count_93 rfl ?_
    refine q_rtV B (s_X0_thingsThatAre (dN hc) hR) kv_yX0_thingsThatAre ki_yX0_thingsThatAre ks_yX0_thingsThatAre km_X6_148 rfl (ci := 0) rfl rfl (dN hc).1 (by decide) rfl (Nat.le_of_ble_eq_true rfl) dX6_count_94 ?_
    exact q_iret BM rfl dX6_count_97 ⟨by rw [a_count, if_neg (show ¬ nI 4 = nI 8 from by decide), if_neg (show ¬ nI 4 = nI 9 from by decide), if_neg (by decide), if_pos (by decide), show nI 4 - nI 3 = nI 1 from by decide], rfl, rfl⟩
  by_cases h5 : w = nI 5
  · subst h5
    refine q_tableIn (off := 97) (tgt := 98) B dX6_count_1 (by decide) (by decide) (by decide) (by decide) ?_
    refine q_aload_n B dX6_count_98 rfl rfl ?_
    refine q_getR B kC_X6 (k := 0) (by decide) rfl kf_X6_10 hc.1 (dn hc) dX6_count_99 ?_
    refine q_iconst (v := nI 2) B dX6_count_102 rfl ?_
    refine q_rtV B (s_X0_thingsThatAre (dN hc) hR) kv_yX0_thingsThatAre ki_yX0_thingsThatAre ks_yX0_thingsThatAre km_X6_148 rfl (ci := 0) rfl rfl (dN hc).1 (by decide) rfl (Nat.le_of_ble_eq_true rfl) dX6_count_103 ?_
    exact q_iret BM rfl dX6_count_106 ⟨by rw [a_count, if_neg (show ¬ nI 5 = nI 8 from by decide), if_neg (show ¬ nI 5 = nI 9 from by decide), if_neg (by decide), if_pos (by decide), show nI 5 - nI 3 = nI 2 from by decide], rfl, rfl⟩
  by_cases h6 : w = nI 6
  · subst h6
    refine q_tableIn (off := 106) (tgt := 107) B dX6_count_1 (by decide) (by decide) (by decide) (by decide) ?_
    refine q_aload_n B dX6_count_107 rfl rfl ?_
    refine q_getR B kC_X6 (k := 0) (by decide) rfl kf_X6_10 hc.1 (dn hc) dX6_count_108 ?_
    refine q_iconst (v := nI 3) B dX6_count_111 rfl ?_
    refine q_rtV B (s_X0_thingsThatAre (dN hc) hR) kv_yX0_thingsThatAre ki_yX0_thingsThatAre ks_yX0_thingsThatAre km_X6_148 rfl (ci := 0) rfl rfl (dN hc).1 (by decide) rfl (Nat.le_of_ble_eq_true rfl) dX6_count_112 ?_
    exact q_iret BM rfl dX6_count_115 ⟨by rw [a_count, if_neg (show ¬ nI 6 = nI 8 from by decide), if_neg (show ¬ nI 6 = nI 9 from by decide), if_neg (by decide), if_pos (by decide), show nI 6 - nI 3 = nI 3 from by decide], rfl, rfl⟩
  by_cases h7 : w = nI 7
  · subst h7
    refine q_tableIn (off := 115) (tgt := 116) B dX6_count_1 (by decide) (by decide) (by decide) (by decide) ?_
    refine q_aload_n B dX6_count_116 rfl rfl ?_
    refine q_getR B kC_X6 (k := 0) (by decide) rfl kf_X6_10 hc.1 (dn hc) dX6_count_117 ?_
    refine q_iconst (v := nI 4) B dX6_count_120 rfl ?_
    refine q_rtV B (s_X0_thingsThatAre (dN hc) hR) kv_yX0_thingsThatAre ki_yX0_thingsThatAre ks_yX0_thingsThatAre km_X6_148 rfl (ci := 0) rfl rfl (dN hc).1 (by decide) rfl (Nat.le_of_ble_eq_true rfl) dX6_count_121 ?_
    exact q_iret BM rfl dX6_count_124 ⟨by rw [a_count, if_neg (show ¬ nI 7 = nI 8 from by decide), if_neg (show ¬ nI 7 = nI 9 from by decide), if_neg (by decide), if_pos (by decide), show nI 7 - nI 3 = nI 4 from by decide], rfl, rfl⟩
  by_cases h8 : w = nI 8
  · subst h8
    refine q_tableIn (off := 124) (tgt := 125) B dX6_count_1 (by decide) (by decide) (by decide) (by decide) ?_
    refine q_aload_n B dX6_count_125 rfl rfl ?_
    refine q_getR B kC_X6 (k := 4) (by decide) rfl kf_X6_33 hc.1 (dpd hc) dX6_count_126 ?_
    refine q_getI2 B kC_X2 (k := 0) (by decide) rfl kf_X6_151 (dPd hc) hl8 dX6_count_129 ?_
    exact q_iret BM rfl dX6_count_132 ⟨by rw [a_count, if_pos rfl], rfl, rfl⟩
  by_cases h9 : w = nI 9
  · subst h9
    refine q_tableIn (off := 132) (tgt := 133) B dX6_count_1 (by decide) (by decide) (by decide) (by decide) ?_
    refine q_aload_n B dX6_count_133 rfl rfl ?_
    refine q_getR B kC_X6 (k := 2) (by decide) rfl kf_X6_22 hc.1 (dp hc) dX6_count_134 ?_
    refine q_getI2 B kC_X4 (k := 0) (by decide) rfl kf_X6_154 (dP hc).1 (hP.1.trans hu4.symm) dX6_count_137 ?_
    exact q_iret BM rfl dX6_count_140 ⟨by rw [a_count, if_neg (show ¬ nI 9 = nI 8 from by decide), if_pos rfl], rfl, rfl⟩
  refine q_tableOut (tgt := 141) B dX6_count_1 (a_tout (lo := 0) (hi := 9) (fun j h1 h2 => by rcases (show j = 0 ∨ j = 1 ∨ j = 2 ∨ j = 3 ∨ j = 4 ∨ j = 5 ∨ j = 6 ∨ j = 7 ∨ j = 8 ∨ j = 9 by omega) with rfl | rfl | rfl | rfl | rfl | rfl | rfl | rfl | rfl | rfl <;> assumption) (by decide)) (by decide) ?_
  refine q_bipush (v := -2) B dX6_count_141 rfl ?_
  exact q_iret BM rfl dX6_count_143 ⟨by rw [a_count, if_neg h8, if_neg h9, if_neg (fun q => by obtain ⟨x, hx, ex⟩ := a_in06 rfl rfl (by decide) q; rcases (show x = 0 ∨ x = 1 ∨ x = 2 by omega) with rfl | rfl | rfl <;> contradiction), if_neg (fun q => by obtain ⟨x, hx, ex⟩ := a_in06 (a := nI 0) rfl rfl (by decide) ⟨Int32.le_trans (by decide) q.1, q.2⟩; rcases (show x = 0 ∨ x = 1 ∨ x = 2 ∨ x = 3 ∨ x = 4 ∨ x = 5 ∨ x = 6 ∨ x = 7 by omega) with rfl | rfl | rfl | rfl | rfl | rfl | rfl | rfl <;> contradiction)], rfl, rfl⟩
