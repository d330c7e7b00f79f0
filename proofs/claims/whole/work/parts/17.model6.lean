/-! what a call that isn't refused was given -/
theorem a_refT_0 {T F : Nat} {σ : a_A} {k b p t : Int32} (hW : a_W T F σ) (h : a_refT σ k b p t = 0) : T < 30 ∧ (∃ j, j < 6 ∧ k = nI j) ∧ b &&& (nI (a_pm (a_n k)) ^^^ (-1)) = 0 ∧ (∃ j, 1 ≤ j ∧ j ≤ 99 ∧ p = nI j) ∧ ∃ j, j ≤ 7 ∧ t = nI j := by
  unfold a_refT at h
  by_cases h1 : nI 0 ≤ k ∧ k ≤ nI 5
  · rw [if_neg (not_not_intro h1)] at h
    by_cases h2 : (b &&& (nI (a_pm (a_n k)) ^^^ (-1)) ≠ 0 ∨ ¬ (nI 1 ≤ p ∧ p ≤ nI 99)) ∨ ¬ (nI 0 ≤ t ∧ t ≤ nI 7)
    · rw [if_pos h2] at h
      exact absurd h (by decide)
    · rw [if_neg h2] at h
      by_cases h3 : σ 1 = nI 30
      · rw [if_pos h3] at h
        exact absurd h (by decide)
      · have hb : b &&& (nI (a_pm (a_n k)) ^^^ (-1)) = 0 := Classical.byContradiction fun q => h2 (Or.inl (Or.inl q))
        have hp : nI 1 ≤ p ∧ p ≤ nI 99 := Classical.byContradiction fun q => h2 (Or.inl (Or.inr q))
        have ht : nI 0 ≤ t ∧ t ≤ nI 7 := Classical.byContradiction fun q => h2 (Or.inr q)
        obtain ⟨a, a1, a2⟩ := a_in06 rfl rfl (by decide) h1
        obtain ⟨c, c1, c2⟩ := a_in06 rfl rfl (by decide) ht
        obtain ⟨e, e1, e2⟩ := a_in06 (a := nI 0) rfl rfl (by decide) ⟨Int32.le_trans (show nI 0 ≤ nI 1 from by decide) hp.1, hp.2⟩
        refine ⟨?_, ⟨a, by omega, a2⟩, hb, ⟨e, ?_, e1, e2⟩, c, c1, c2⟩
        · have := hW.1.2
          rcases Nat.lt_or_ge T 30 with q | q
          · exact q
          · exact absurd (by rw [hW.1.1, show T = 30 by omega]) h3
        · have := hp.1
          rw [e2] at this
          exact (nI_leI (by omega) (by omega)).mp this
  · rw [if_pos h1] at h
    exact absurd h (by decide)
theorem a_refF_0 {T F : Nat} {σ : a_A} {k c : Int32} (hW : a_W T F σ) (h : a_refF σ k c = 0) : F < 5 ∧ (∃ j, 1 ≤ j ∧ j ≤ 63 ∧ k = nI j) ∧ ∃ j, j ≤ 9 ∧ c = nI j := by
  unfold a_refF at h
  by_cases h2 : ¬ (nI 1 ≤ k ∧ k ≤ nI 63) ∨ ¬ (nI 0 ≤ c ∧ c ≤ nI 9)
  · rw [if_pos h2] at h
    exact absurd h (by decide)
  · rw [if_neg h2] at h
    by_cases h3 : σ 2 = nI 5
    · rw [if_pos h3] at h
      exact absurd h (by decide)
    · have hk : nI 1 ≤ k ∧ k ≤ nI 63 := Classical.byContradiction fun q => h2 (Or.inl q)
      have hc : nI 0 ≤ c ∧ c ≤ nI 9 := Classical.byContradiction fun q => h2 (Or.inr q)
      obtain ⟨a, a1, a2⟩ := a_in06 rfl rfl (by decide) hc
      obtain ⟨e, e1, e2⟩ := a_in06 (a := nI 0) rfl rfl (by decide) ⟨Int32.le_trans (show nI 0 ≤ nI 1 from by decide) hk.1, hk.2⟩
      refine ⟨?_, ⟨e, ?_, e1, e2⟩, a, a1, a2⟩
      · have := hW.2.1.2
        rcases Nat.lt_or_ge F 5 with q | q
        · exact q
        · exact absurd (by rw [hW.2.1.1, show F = 5 by omega]) h3
      · have := hk.1
        rw [e2] at this
        exact (nI_leI (by omega) (by omega)).mp this
theorem a_refD_0 {p m : Int32} (h : a_refD p m = 0) : (∃ j, j < 8 ∧ p = nI j) ∧ ∃ j, j ≤ 99 ∧ m = nI j := by
  unfold a_refD at h
  by_cases h1 : nI 0 ≤ p ∧ p ≤ nI 7
  · rw [if_neg (not_not_intro h1)] at h
    by_cases h2 : nI 0 ≤ m ∧ m ≤ nI 99
    · obtain ⟨a, a1, a2⟩ := a_in06 rfl rfl (by decide) h1
      obtain ⟨c, c1, c2⟩ := a_in06 rfl rfl (by decide) h2
      exact ⟨⟨a, by omega, a2⟩, c, c1, c2⟩
    · rw [if_neg h2] at h
      exact absurd h (by decide)
  · rw [if_pos h1] at h
    exact absurd h (by decide)
theorem a_refP_0 {σ : a_A} {m : Int32} (h : a_refP σ m = 0) : ∃ j, 1 ≤ j ∧ j ≤ 99 ∧ m = nI j := by
  unfold a_refP at h
  by_cases h1 : nI 1 ≤ m ∧ m ≤ nI 99
  · obtain ⟨e, e1, e2⟩ := a_in06 (a := nI 0) rfl rfl (by decide) ⟨Int32.le_trans (show nI 0 ≤ nI 1 from by decide) h1.1, h1.2⟩
    refine ⟨e, ?_, e1, e2⟩
    have := h1.1
    rw [e2] at this
    exact (nI_leI (by omega) (by omega)).mp this
  · rw [if_pos h1] at h
    exact absurd h (by decide)
theorem a_rec_at {I : q_Mem} {o : Nat} {σ : a_A} {l : Nat} (h1 : l ≠ o) (h2 : l ≠ o + 3) : a_rec I o σ l = I l := by
  unfold a_rec
  rw [q_setA_ne h1, q_setA_ne h2]
theorem a_rec_o {I : q_Mem} {o : Nat} {σ : a_A} {k : Nat} (h : k ≠ 4) : a_rec I o σ o k = I o k := by
  unfold a_rec
  rw [q_setA_at, q_upd_ne h]
set_option maxRecDepth 100000 in
set_option maxHeartbeats 4000000 in
theorem s_thing_no {Sh : q_Sh} {I : q_Mem} {σ : a_A} {o : Nat} (hm : mOk Sh o) {T F : Nat} (hW : a_W T F σ) (h0 : I o 0 = nI 0) {k b p t : Int32} (hr : ¬ a_refT σ k b p t = 0) : q_Rt mX7_thing 2 [.ref o, .int k, .int b, .int p, .int t] Sh (q_setA I (o + 1) σ) (some (.int (a_refT σ k b p t))) (q_setA I (o + 1) σ) := by
  refine q_rt_of (by decide) (Nat.le_of_ble_eq_true rfl) fun Γ BM => ?_
  have B := BM.1
  show q_W Γ mX7_thing 0 0 Sh (q_setA I (o + 1) σ) 0 [(0, .ref o), (1, .int k), (2, .int b), (3, .int p), (4, .int t)] []
  refine q_aload_n B dX7_thing_0 rfl rfl ?_
  refine q_iconst (v := nI 0) B dX7_thing_1 rfl ?_
  refine q_putSame B kC_X7 (k := 0) (by decide) rfl kf_X7_32 rfl rfl rfl hm.1 ((congrFun (q_setA_ne (by omega)) _).trans h0) dX7_thing_2 ?_
  refine q_aload_n B dX7_thing_5 rfl rfl ?_
  refine q_iload_n B dX7_thing_6 rfl rfl ?_
  refine q_iload_n B dX7_thing_7 rfl rfl ?_
  refine q_iload_n B dX7_thing_8 rfl rfl ?_
  refine q_iload B dX7_thing_9 rfl ?_
  refine q_rtV B (s_refusesThing hm) kv_yX7_refusesThing ki_yX7_refusesThing ks_yX7_refusesThing km_X7_98 rfl (ci := 7) rfl rfl hm.1 (by decide) rfl (Nat.le_of_ble_eq_true rfl) dX7_thing_11 ?_
  refine q_istore B dX7_thing_14 (Nat.le_of_ble_eq_true rfl) rfl ?_
  refine q_iload B dX7_thing_16 rfl ?_
  refine q_if_eq (tgt := 24) B dX7_thing_18 (by decide) (fun h => absurd h hr) (fun _ => ?_)
  refine q_iload B dX7_thing_21 rfl ?_
  exact q_iret BM rfl dX7_thing_23 ⟨rfl, rfl, rfl⟩
set_option maxRecDepth 100000 in
set_option maxHeartbeats 4000000 in
theorem s_thing_yes {Sh : q_Sh} {I : q_Mem} {σ : a_A} {o : Nat} (hm : mOk Sh o) {T F : Nat} (hW : a_W T F σ) (h0 : I o 0 = nI 0) {u : Nat} (hu : u ≤ 6) (hu4 : I o 4 = nI u) {k b p t : Int32} (hr : a_refT σ k b p t = 0) : q_Rt mX7_thing 2 [.ref o, .int k, .int b, .int p, .int t] Sh (q_setA I (o + 1) σ) (some (.int (nI T))) (q_setA (a_rec I o σ) (o + 1) (a_comes σ k b p t)) := by
  refine q_rt_of (by decide) (Nat.le_of_ble_eq_true rfl) fun Γ BM => ?_
  have B := BM.1
  have hlt := (a_refT_0 hW hr).1
  show q_W Γ mX7_thing 0 0 Sh (q_setA I (o + 1) σ) 0 [(0, .ref o), (1, .int k), (2, .int b), (3, .int p), (4, .int t)] []
  refine q_aload_n B dX7_thing_0 rfl rfl ?_
  refine q_iconst (v := nI 0) B dX7_thing_1 rfl ?_
  refine q_putSame B kC_X7 (k := 0) (by decide) rfl kf_X7_32 rfl rfl rfl hm.1 ((congrFun (q_setA_ne (by omega)) _).trans h0) dX7_thing_2 ?_
  refine q_aload_n B dX7_thing_5 rfl rfl ?_
  refine q_iload_n B dX7_thing_6 rfl rfl ?_
  refine q_iload_n B dX7_thing_7 rfl rfl ?_
  refine q_iload_n B dX7_thing_8 rfl rfl ?_
  refine q_iload B dX7_thing_9 rfl ?_
  refine q_rtV B (s_refusesThing hm) kv_yX7_refusesThing ki_yX7_refusesThing ks_yX7_refusesThing km_X7_98 rfl (ci := 7) rfl rfl hm.1 (by decide) rfl (Nat.le_of_ble_eq_true rfl) dX7_thing_11 ?_
  refine q_istore B dX7_thing_14 (Nat.le_of_ble_eq_true rfl) rfl ?_
  refine q_iload B dX7_thing_16 rfl ?_
  refine q_if_eq (tgt := 24) B dX7_thing_18 (by decide) (fun _ => ?_) (fun h => absurd hr h)
  refine q_aload_n B dX7_thing_24 rfl rfl ?_
  refine q_rtV B (s_records hm hu hu4) kv_yX7_records ki_yX7_records ks_yX7_records km_X7_102 rfl (ci := 7) rfl rfl hm.1 (by decide) rfl (Nat.le_of_ble_eq_true rfl) dX7_thing_25 ?_
  refine q_aload_n B dX7_thing_28 rfl rfl ?_
  refine q_iload_n B dX7_thing_29 rfl rfl ?_
  refine q_iload_n B dX7_thing_30 rfl rfl ?_
  refine q_iload_n B dX7_thing_31 rfl rfl ?_
  refine q_iload B dX7_thing_32 rfl ?_
  refine q_rtV B (s_comes hm hW hlt) kv_yX7_comes ki_yX7_comes ks_yX7_comes km_X7_105 rfl (ci := 7) rfl rfl hm.1 (by decide) rfl (Nat.le_of_ble_eq_true rfl) dX7_thing_34 ?_
  exact q_iret BM rfl dX7_thing_37 ⟨rfl, rfl, rfl⟩
set_option maxRecDepth 100000 in
set_option maxHeartbeats 4000000 in
theorem s_fixer_no {Sh : q_Sh} {I : q_Mem} {σ : a_A} {o : Nat} (hm : mOk Sh o) {T F : Nat} (hW : a_W T F σ) (h0 : I o 0 = nI 0) {k c : Int32} (hr : ¬ a_refF σ k c = 0) : q_Rt mX7_fixer 2 [.ref o, .int k, .int c] Sh (q_setA I (o + 1) σ) (some (.int (a_refF σ k c))) (q_setA I (o + 1) σ) := by
  refine q_rt_of (by decide) (Nat.le_of_ble_eq_true rfl) fun Γ BM => ?_
  have B := BM.1
  show q_W Γ mX7_fixer 0 0 Sh (q_setA I (o + 1) σ) 0 [(0, .ref o), (1, .int k), (2, .int c)] []
  refine q_aload_n B dX7_fixer_0 rfl rfl ?_
  refine q_iconst (v := nI 0) B dX7_fixer_1 rfl ?_
  refine q_putSame B kC_X7 (k := 0) (by decide) rfl kf_X7_32 rfl rfl rfl hm.1 ((congrFun (q_setA_ne (by omega)) _).trans h0) dX7_fixer_2 ?_
  refine q_aload_n B dX7_fixer_5 rfl rfl ?_
  refine q_iload_n B dX7_fixer_6 rfl rfl ?_
  refine q_iload_n B dX7_fixer_7 rfl rfl ?_
  refine q_rtV B (s_refusesFixer hm) kv_yX7_refusesFixer ki_yX7_refusesFixer ks_yX7_refusesFixer km_X7_108 rfl (ci := 7) rfl rfl hm.1 (by decide) rfl (Nat.le_of_ble_eq_true rfl) dX7_fixer_8 ?_
  refine q_istore_n B dX7_fixer_11 rfl (Nat.le_of_ble_eq_true rfl) rfl ?_
  refine q_iload_n B dX7_fixer_12 rfl rfl ?_
  refine q_if_eq (tgt := 18) B dX7_fixer_13 (by decide) (fun h => absurd h hr) (fun _ => ?_)
  refine q_iload_n B dX7_fixer_16 rfl rfl ?_
  exact q_iret BM rfl dX7_fixer_17 ⟨rfl, rfl, rfl⟩
set_option maxRecDepth 100000 in
set_option maxHeartbeats 4000000 in
theorem s_fixer_yes {Sh : q_Sh} {I : q_Mem} {σ : a_A} {o : Nat} (hm : mOk Sh o) {T F : Nat} (hW : a_W T F σ) (h0 : I o 0 = nI 0) {u : Nat} (hu : u ≤ 6) (hu4 : I o 4 = nI u) {k c : Int32} (hr : a_refF σ k c = 0) : q_Rt mX7_fixer 2 [.ref o, .int k, .int c] Sh (q_setA I (o + 1) σ) (some (.int (nI F))) (q_setA (a_rec I o σ) (o + 1) (a_comesF σ k c)) := by
  refine q_rt_of (by decide) (Nat.le_of_ble_eq_true rfl) fun Γ BM => ?_
  have B := BM.1
  have hlt := (a_refF_0 hW hr).1
  show q_W Γ mX7_fixer 0 0 Sh (q_setA I (o + 1) σ) 0 [(0, .ref o), (1, .int k), (2, .int c)] []
  refine q_aload_n B dX7_fixer_0 rfl rfl ?_
  refine q_iconst (v := nI 0) B dX7_fixer_1 rfl ?_
  refine q_putSame B kC_X7 (k := 0) (by decide) rfl kf_X7_32 rfl rfl rfl hm.1 ((congrFun (q_setA_ne (by omega)) _).trans h0) dX7_fixer_2 ?_
  refine q_aload_n B dX7_fixer_5 rfl rfl ?_
  refine q_iload_n B dX7_fixer_6 rfl rfl ?_
  refine q_iload_n B dX7_fixer_7 rfl rfl ?_
  refine q_rtV B (s_refusesFixer hm) kv_yX7_refusesFixer ki_yX7_refusesFixer ks_yX7_refusesFixer km_X7_108 rfl (ci := 7) rfl rfl hm.1 (by decide) rfl (Nat.le_of_ble_eq_true rfl) dX7_fixer_8 ?_
  refine q_istore_n B dX7_fixer_11 rfl (Nat.le_of_ble_eq_true rfl) rfl ?_
  refine q_iload_n B dX7_fixer_12 rfl rfl ?_
  refine q_if_eq (tgt := 18) B dX7_fixer_13 (by decide) (fun _ => ?_) (fun h => absurd hr h)
  refine q_aload_n B dX7_fixer_18 rfl rfl ?_
  refine q_rtV B (s_records hm hu hu4) kv_yX7_records ki_yX7_records ks_yX7_records km_X7_102 rfl (ci := 7) rfl rfl hm.1 (by decide) rfl (Nat.le_of_ble_eq_true rfl) dX7_fixer_19 ?_
  refine q_aload_n B dX7_fixer_22 rfl rfl ?_
  refine q_iload_n B dX7_fixer_23 rfl rfl ?_
  refine q_iload_n B dX7_fixer_24 rfl rfl ?_
  refine q_rtV B (s_comesFixer hm hW hlt) kv_yX7_comesFixer ki_yX7_comesFixer ks_yX7_comesFixer km_X7_111 rfl (ci := 7) rfl rfl hm.1 (by decide) rfl (Nat.le_of_ble_eq_true rfl) dX7_fixer_25 ?_
  exact q_iret BM rfl dX7_fixer_28 ⟨rfl, rfl, rfl⟩
set_option maxRecDepth 100000 in
set_option maxHeartbeats 4000000 in
theorem s_drawer_no {Sh : q_Sh} {I : q_Mem} {σ : a_A} {o : Nat} (hm : mOk Sh o) {T F : Nat} (hW : a_W T F σ) (h0 : I o 0 = nI 0) {p m : Int32} (hr : ¬ a_refD p m = 0) : q_Rt mX7_drawer 2 [.ref o, .int p, .int m] Sh (q_setA I (o + 1) σ) (some (.int (a_refD p m))) (q_setA I (o + 1) σ) := by
  refine q_rt_of (by decide) (Nat.le_of_ble_eq_true rfl) fun Γ BM => ?_
  have B := BM.1
  show q_W Γ mX7_drawer 0 0 Sh (q_setA I (o + 1) σ) 0 [(0, .ref o), (1, .int p), (2, .int m)] []
  refine q_aload_n B dX7_drawer_0 rfl rfl ?_
  refine q_iconst (v := nI 0) B dX7_drawer_1 rfl ?_
  refine q_putSame B kC_X7 (k := 0) (by decide) rfl kf_X7_32 rfl rfl rfl hm.1 ((congrFun (q_setA_ne (by omega)) _).trans h0) dX7_drawer_2 ?_
  refine q_iload_n B dX7_drawer_5 rfl rfl ?_
  refine q_iload_n B dX7_drawer_6 rfl rfl ?_
  refine q_rtS B s_refusesDrawer kv_yX7_refusesDrawer kt_yX7_refusesDrawer km_X7_114 rfl (by decide) rfl (Nat.le_of_ble_eq_true rfl) dX7_drawer_7 ?_
  refine q_istore_n B dX7_drawer_10 rfl (Nat.le_of_ble_eq_true rfl) rfl ?_
  refine q_iload_n B dX7_drawer_11 rfl rfl ?_
  refine q_if_eq (tgt := 17) B dX7_drawer_12 (by decide) (fun h => absurd h hr) (fun _ => ?_)
  refine q_iload_n B dX7_drawer_15 rfl rfl ?_
  exact q_iret BM rfl dX7_drawer_16 ⟨rfl, rfl, rfl⟩
set_option maxRecDepth 100000 in
set_option maxHeartbeats 4000000 in
theorem s_drawer_yes {Sh : q_Sh} {I : q_Mem} {σ : a_A} {o : Nat} (hm : mOk Sh o) {T F : Nat} (hW : a_W T F σ) (h0 : I o 0 = nI 0) {u : Nat} (hu : u ≤ 6) (hu4 : I o 4 = nI u) {m : Int32} {j : Nat} (hj : j < 8) (hr : a_refD (nI j) m = 0) : q_Rt mX7_drawer 2 [.ref o, .int (nI j), .int m] Sh (q_setA I (o + 1) σ) (some (.int (σ (3 + j)))) (q_setA (a_rec I o σ) (o + 1) (upd σ (3 + j) m)) := by
  refine q_rt_of (by decide) (Nat.le_of_ble_eq_true rfl) fun Γ BM => ?_
  have B := BM.1
  show q_W Γ mX7_drawer 0 0 Sh (q_setA I (o + 1) σ) 0 [(0, .ref o), (1, .int (nI j)), (2, .int m)] []
  refine q_aload_n B dX7_drawer_0 rfl rfl ?_
  refine q_iconst (v := nI 0) B dX7_drawer_1 rfl ?_
  refine q_putSame B kC_X7 (k := 0) (by decide) rfl kf_X7_32 rfl rfl rfl hm.1 ((congrFun (q_setA_ne (by omega)) _).trans h0) dX7_drawer_2 ?_
  refine q_iload_n B dX7_drawer_5 rfl rfl ?_
  refine q_iload_n B dX7_drawer_6 rfl rfl ?_
  refine q_rtS B s_refusesDrawer kv_yX7_refusesDrawer kt_yX7_refusesDrawer km_X7_114 rfl (by decide) rfl (Nat.le_of_ble_eq_true rfl) dX7_drawer_7 ?_
  refine q_istore_n B dX7_drawer_10 rfl (Nat.le_of_ble_eq_true rfl) rfl ?_
  refine q_iload_n B dX7_drawer_11 rfl rfl ?_
  refine q_if_eq (tgt := 17) B dX7_drawer_12 (by decide) (fun _ => ?_) (fun h => absurd hr h)
  refine q_aload_n B dX7_drawer_17 rfl rfl ?_
  refine q_rtV B (s_records hm hu hu4) kv_yX7_records ki_yX7_records ks_yX7_records km_X7_102 rfl (ci := 7) rfl rfl hm.1 (by decide) rfl (Nat.le_of_ble_eq_true rfl) dX7_drawer_18 ?_
  refine q_aload_n B dX7_drawer_21 rfl rfl ?_
  refine q_getR B kC_X7 (k := 1) (by decide) rfl kf_X7_7 hm.1 (mR_s hm) dX7_drawer_22 ?_
  refine q_iconst (v := nI 3) B dX7_drawer_25 rfl ?_
  refine q_iload_n B dX7_drawer_26 rfl rfl ?_
  refine q_iadd B dX7_drawer_27 ?_
  refine q_ialdS (n := 3 + j) B (mA_s hm) (by simp only [nI_add, q_nI_mul]) (by omega) (by decide) dX7_drawer_28 ?_
  refine q_istore B dX7_drawer_29 (Nat.le_of_ble_eq_true rfl) rfl ?_
  refine q_aload_n B dX7_drawer_31 rfl rfl ?_
  refine q_getR B kC_X7 (k := 1) (by decide) rfl kf_X7_7 hm.1 (mR_s hm) dX7_drawer_32 ?_
  refine q_iconst (v := nI 3) B dX7_drawer_35 rfl ?_
  refine q_iload_n B dX7_drawer_36 rfl rfl ?_
  refine q_iadd B dX7_drawer_37 ?_
  refine q_iload_n B dX7_drawer_38 rfl rfl ?_
  refine q_iastS (n := 3 + j) B (mA_s hm) (by simp only [nI_add, q_nI_mul]) (by omega) (by decide) dX7_drawer_39 ?_
  refine q_iload B dX7_drawer_40 rfl ?_
  exact q_iret BM rfl dX7_drawer_42 ⟨rfl, rfl, rfl⟩
set_option maxRecDepth 100000 in
set_option maxHeartbeats 4000000 in
theorem s_giveUp_no1 {Sh : q_Sh} {I : q_Mem} {σ : a_A} {o : Nat} (hm : mOk Sh o) {T F : Nat} (hW : a_W T F σ) (h0 : I o 0 = nI 0) {t : Int32} (hr : ¬ (nI 0 ≤ t ∧ t < nI T)) : q_Rt mX7_giveUp 2 [.ref o, .int t] Sh (q_setA I (o + 1) σ) (some (.int (-1))) (q_setA I (o + 1) σ) := by
  refine q_rt_of (by decide) (Nat.le_of_ble_eq_true rfl) fun Γ BM => ?_
  have B := BM.1
  show q_W Γ mX7_giveUp 0 0 Sh (q_setA I (o + 1) σ) 0 [(0, .ref o), (1, .int t)] []
  refine q_aload_n B dX7_giveUp_0 rfl rfl ?_
  refine q_iconst (v := nI 0) B dX7_giveUp_1 rfl ?_
  refine q_putSame B kC_X7 (k := 0) (by decide) rfl kf_X7_32 rfl rfl rfl hm.1 ((congrFun (q_setA_ne (by omega)) _).trans h0) dX7_giveUp_2 ?_
  refine q_aload_n B dX7_giveUp_5 rfl rfl ?_
  refine q_iload_n B dX7_giveUp_6 rfl rfl ?_
  refine q_rtV B (s_isThing hm hW) kv_yX7_isThing ki_yX7_isThing ks_yX7_isThing km_X7_117 rfl (ci := 7) rfl rfl hm.1 (by decide) rfl (Nat.le_of_ble_eq_true rfl) dX7_giveUp_7 ?_
  refine q_if_ne (tgt := 15) B dX7_giveUp_10 (by decide) (fun h => absurd ((if_neg (by rw [hW.1.1]; exact fun q => hr ((a_isT_iff hW.1.2).mp q)))) h) (fun _ => ?_)
  refine q_iconst (v := -1) B dX7_giveUp_13 rfl ?_
  exact q_iret BM rfl dX7_giveUp_14 ⟨rfl, rfl, rfl⟩
set_option maxRecDepth 100000 in
set_option maxHeartbeats 4000000 in
theorem s_giveUp_no2 {Sh : q_Sh} {I : q_Mem} {σ : a_A} {o : Nat} (hm : mOk Sh o) {T F : Nat} (hW : a_W T F σ) (h0 : I o 0 = nI 0) {j : Nat} (hj : j < T) (hh : ¬ σ (57 + 7 * j + 4) = 0) : q_Rt mX7_giveUp 2 [.ref o, .int (nI j)] Sh (q_setA I (o + 1) σ) (some (.int (-5))) (q_setA I (o + 1) σ) := by
  refine q_rt_of (by decide) (Nat.le_of_ble_eq_true rfl) fun Γ BM => ?_
  have B := BM.1
  have hr : nI 0 ≤ nI j ∧ nI j < nI T := ⟨(nI_leI (by omega) (by have := hW.1.2; omega)).mpr (Nat.zero_le j), (nI_ltI (by have := hW.1.2; omega) (by have := hW.1.2; omega)).mpr hj⟩
  have hT2 := hW.1.2
  show q_W Γ mX7_giveUp 0 0 Sh (q_setA I (o + 1) σ) 0 [(0, .ref o), (1, .int (nI j))] []
  refine q_aload_n B dX7_giveUp_0 rfl rfl ?_
  refine q_iconst (v := nI 0) B dX7_giveUp_1 rfl ?_
  refine q_putSame B kC_X7 (k := 0) (by decide) rfl kf_X7_32 rfl rfl rfl hm.1 ((congrFun (q_setA_ne (by omega)) _).trans h0) dX7_giveUp_2 ?_
  refine q_aload_n B dX7_giveUp_5 rfl rfl ?_
  refine q_iload_n B dX7_giveUp_6 rfl rfl ?_
  refine q_rtV B (s_isThing hm hW) kv_yX7_isThing ki_yX7_isThing ks_yX7_isThing km_X7_117 rfl (ci := 7) rfl rfl hm.1 (by decide) rfl (Nat.le_of_ble_eq_true rfl) dX7_giveUp_7 ?_
  refine q_if_ne (tgt := 15) B dX7_giveUp_10 (by decide) (fun _ => ?_) (fun h => absurd h ((by rw [if_pos (by rw [hW.1.1]; exact (a_isT_iff hW.1.2).mpr hr)]; decide)))
  refine q_aload_n B dX7_giveUp_15 rfl rfl ?_
  refine q_iload_n B dX7_giveUp_16 rfl rfl ?_
  refine q_iconst (v := nI 4) B dX7_giveUp_17 rfl ?_
  refine q_rtV B (s_of hm (by omega) (by decide)) kv_yX7_of ki_yX7_of ks_yX7_of km_X7_39 rfl (ci := 7) rfl rfl hm.1 (by decide) rfl (Nat.le_of_ble_eq_true rfl) dX7_giveUp_18 ?_
  refine q_if_eq (tgt := 27) B dX7_giveUp_21 (by decide) (fun h => absurd h hh) (fun _ => ?_)
  refine q_bipush (v := -5) B dX7_giveUp_24 rfl ?_
  exact q_iret BM rfl dX7_giveUp_26 ⟨rfl, rfl, rfl⟩
set_option maxRecDepth 100000 in
set_option maxHeartbeats 4000000 in
theorem s_giveUp_yes {Sh : q_Sh} {I : q_Mem} {σ : a_A} {o : Nat} (hm : mOk Sh o) {T F : Nat} (hW : a_W T F σ) (h0 : I o 0 = nI 0) {u : Nat} (hu : u ≤ 6) (hu4 : I o 4 = nI u) {j : Nat} (hj : j < T) (hh : σ (57 + 7 * j + 4) = 0) : q_Rt mX7_giveUp 2 [.ref o, .int (nI j)] Sh (q_setA I (o + 1) σ) (some (.int (a_strips σ j).2)) (q_setA (a_rec I o σ) (o + 1) (a_strips σ j).1) := by
  refine q_rt_of (by decide) (Nat.le_of_ble_eq_true rfl) fun Γ BM => ?_
  have B := BM.1
  have hr : nI 0 ≤ nI j ∧ nI j < nI T := ⟨(nI_leI (by omega) (by have := hW.1.2; omega)).mpr (Nat.zero_le j), (nI_ltI (by have := hW.1.2; omega) (by have := hW.1.2; omega)).mpr hj⟩
  have hT2 := hW.1.2
  obtain ⟨k, hk, ek⟩ := hW.2.2.1 j hj
  show q_W Γ mX7_giveUp 0 0 Sh (q_setA I (o + 1) σ) 0 [(0, .ref o), (1, .int (nI j))] []
  refine q_aload_n B dX7_giveUp_0 rfl rfl ?_
  refine q_iconst (v := nI 0) B dX7_giveUp_1 rfl ?_
  refine q_putSame B kC_X7 (k := 0) (by decide) rfl kf_X7_32 rfl rfl rfl hm.1 ((congrFun (q_setA_ne (by omega)) _).trans h0) dX7_giveUp_2 ?_
  refine q_aload_n B dX7_giveUp_5 rfl rfl ?_
  refine q_iload_n B dX7_giveUp_6 rfl rfl ?_
  refine q_rtV B (s_isThing hm hW) kv_yX7_isThing ki_yX7_isThing ks_yX7_isThing km_X7_117 rfl (ci := 7) rfl rfl hm.1 (by decide) rfl (Nat.le_of_ble_eq_true rfl) dX7_giveUp_7 ?_
  refine q_if_ne (tgt := 15) B dX7_giveUp_10 (by decide) (fun _ => ?_) (fun h => absurd h ((by rw [if_pos (by rw [hW.1.1]; exact (a_isT_iff hW.1.2).mpr hr)]; decide)))
  refine q_aload_n B dX7_giveUp_15 rfl rfl ?_
  refine q_iload_n B dX7_giveUp_16 rfl rfl ?_
  refine q_iconst (v := nI 4) B dX7_giveUp_17 rfl ?_
  refine q_rtV B (s_of hm (by omega) (by decide)) kv_yX7_of ki_yX7_of ks_yX7_of km_X7_39 rfl (ci := 7) rfl rfl hm.1 (by decide) rfl (Nat.le_of_ble_eq_true rfl) dX7_giveUp_18 ?_
  refine q_if_eq (tgt := 27) B dX7_giveUp_21 (by decide) (fun _ => ?_) (fun h => absurd hh h)
  refine q_aload_n B dX7_giveUp_27 rfl rfl ?_
  refine q_rtV B (s_records hm hu hu4) kv_yX7_records ki_yX7_records ks_yX7_records km_X7_102 rfl (ci := 7) rfl rfl hm.1 (by decide) rfl (Nat.le_of_ble_eq_true rfl) dX7_giveUp_28 ?_
  refine q_aload_n B dX7_giveUp_31 rfl rfl ?_
  refine q_iload_n B dX7_giveUp_32 rfl rfl ?_
  refine q_rtV B (s_strips hm (by omega) hk ek) kv_yX7_strips ki_yX7_strips ks_yX7_strips km_X7_54 rfl (ci := 7) rfl rfl hm.1 (by decide) rfl (Nat.le_of_ble_eq_true rfl) dX7_giveUp_33 ?_
  exact q_iret BM rfl dX7_giveUp_36 ⟨rfl, rfl, rfl⟩
set_option maxRecDepth 100000 in
set_option maxHeartbeats 4000000 in
theorem s_pass_no {Sh : q_Sh} {I : q_Mem} {σ : a_A} {o : Nat} (hm : mOk Sh o) {T F : Nat} (hW : a_W T F σ) (h0 : I o 0 = nI 0) {m : Int32} (hr : ¬ a_refP σ m = 0) : q_Rt mX7_pass 6 [.ref o, .int m] Sh (q_setA I (o + 1) σ) (some (.int (a_refP σ m))) (q_setA I (o + 1) σ) := by
  refine q_rt_of (by decide) (Nat.le_of_ble_eq_true rfl) fun Γ BM => ?_
  have B := BM.1
  show q_W Γ mX7_pass 0 0 Sh (q_setA I (o + 1) σ) 0 [(0, .ref o), (1, .int m)] []
  refine q_aload_n B dX7_pass_0 rfl rfl ?_
  refine q_iconst (v := nI 0) B dX7_pass_1 rfl ?_
  refine q_putSame B kC_X7 (k := 0) (by decide) rfl kf_X7_32 rfl rfl rfl hm.1 ((congrFun (q_setA_ne (by omega)) _).trans h0) dX7_pass_2 ?_
  refine q_aload_n B dX7_pass_5 rfl rfl ?_
  refine q_iload_n B dX7_pass_6 rfl rfl ?_
  refine q_rtV B (s_refusesPass hm) kv_yX7_refusesPass ki_yX7_refusesPass ks_yX7_refusesPass km_X7_120 rfl (ci := 7) rfl rfl hm.1 (by decide) rfl (Nat.le_of_ble_eq_true rfl) dX7_pass_7 ?_
  refine q_istore_n B dX7_pass_10 rfl (Nat.le_of_ble_eq_true rfl) rfl ?_
  refine q_iload_n B dX7_pass_11 rfl rfl ?_
  refine q_if_eq (tgt := 17) B dX7_pass_12 (by decide) (fun h => absurd h hr) (fun _ => ?_)
  refine q_iload_n B dX7_pass_15 rfl rfl ?_
  exact q_iret BM rfl dX7_pass_16 ⟨rfl, rfl, rfl⟩
set_option maxRecDepth 100000 in
set_option maxHeartbeats 4000000 in
theorem s_pass_yes {Sh : q_Sh} {I : q_Mem} {σ : a_A} {o : Nat} (hm : mOk Sh o) {T F : Nat} (hW : a_W T F σ) (h0 : I o 0 = nI 0) {u : Nat} (hu : u ≤ 6) (hu4 : I o 4 = nI u) {k : Nat} (hk : k < 2 ^ 31) (hr : a_refP σ (nI k) = 0) : q_Rt mX7_pass 6 [.ref o, .int (nI k)] Sh (q_setA I (o + 1) σ) (some (.int (a_how (a_minutes k σ) (nI 2) - a_how σ (nI 2)))) (q_setA (a_rec I o σ) (o + 1) (a_minutes k σ)) := by
  refine q_rt_of (by decide) (Nat.le_of_ble_eq_true rfl) fun Γ BM => ?_
  have B := BM.1
  show q_W Γ mX7_pass 0 0 Sh (q_setA I (o + 1) σ) 0 [(0, .ref o), (1, .int (nI k))] []
  refine q_aload_n B dX7_pass_0 rfl rfl ?_
  refine q_iconst (v := nI 0) B dX7_pass_1 rfl ?_
  refine q_putSame B kC_X7 (k := 0) (by decide) rfl kf_X7_32 rfl rfl rfl hm.1 ((congrFun (q_setA_ne (by omega)) _).trans h0) dX7_pass_2 ?_
  refine q_aload_n B dX7_pass_5 rfl rfl ?_
  refine q_iload_n B dX7_pass_6 rfl rfl ?_
  refine q_rtV B (s_refusesPass hm) kv_yX7_refusesPass ki_yX7_refusesPass ks_yX7_refusesPass km_X7_120 rfl (ci := 7) rfl rfl hm.1 (by decide) rfl (Nat.le_of_ble_eq_true rfl) dX7_pass_7 ?_
  refine q_istore_n B dX7_pass_10 rfl (Nat.le_of_ble_eq_true rfl) rfl ?_
  refine q_iload_n B dX7_pass_11 rfl rfl ?_
  refine q_if_eq (tgt := 17) B dX7_pass_12 (by decide) (fun _ => ?_) (fun h => absurd hr h)
  refine q_aload_n B dX7_pass_17 rfl rfl ?_
  refine q_rtV B (s_records hm hu hu4) kv_yX7_records ki_yX7_records ks_yX7_records km_X7_102 rfl (ci := 7) rfl rfl hm.1 (by decide) rfl (Nat.le_of_ble_eq_true rfl) dX7_pass_18 ?_
  refine q_aload_n B dX7_pass_21 rfl rfl ?_
  refine q_iload_n B dX7_pass_22 rfl rfl ?_
  refine q_rtV B (s_minutes hm hW hk) kv_yX7_minutes ki_yX7_minutes ks_yX7_minutes km_X7_123 rfl (ci := 7) rfl rfl hm.1 (by decide) rfl (Nat.le_of_ble_eq_true rfl) dX7_pass_23 ?_
  exact q_iret BM rfl dX7_pass_26 ⟨rfl, rfl, rfl⟩
set_option maxRecDepth 100000 in
set_option maxHeartbeats 4000000 in
theorem s_undo_no {Sh : q_Sh} {I : q_Mem} {σ : a_A} {o : Nat} (hm : mOk Sh o) {T F : Nat} (hW : a_W T F σ) (h0 : I o 0 = nI 0) (hz : I o 4 = nI 0) : q_Rt mX7_undo 0 [.ref o] Sh (q_setA I (o + 1) σ) (some (.int (-5))) (q_setA I (o + 1) σ) := by
  refine q_rt_of (by decide) (Nat.le_of_ble_eq_true rfl) fun Γ BM => ?_
  have B := BM.1
  show q_W Γ mX7_undo 0 0 Sh (q_setA I (o + 1) σ) 0 [(0, .ref o)] []
  refine q_aload_n B dX7_undo_0 rfl rfl ?_
  refine q_iconst (v := nI 0) B dX7_undo_1 rfl ?_
  refine q_putSame B kC_X7 (k := 0) (by decide) rfl kf_X7_32 rfl rfl rfl hm.1 ((congrFun (q_setA_ne (by omega)) _).trans h0) dX7_undo_2 ?_
  refine q_aload_n B dX7_undo_5 rfl rfl ?_
  refine q_getIS B (by omega) kC_X7 (k := 4) (by decide) rfl kf_X7_36 hm.1 dX7_undo_6 ?_
  refine q_if_ne (tgt := 15) B dX7_undo_9 (by decide) (fun h => absurd hz h) (fun _ => ?_)
  refine q_bipush (v := -5) B dX7_undo_12 rfl ?_
  exact q_iret BM rfl dX7_undo_14 ⟨rfl, rfl, rfl⟩
set_option maxRecDepth 100000 in
set_option maxHeartbeats 4000000 in
theorem s_undo_yes {Sh : q_Sh} {I : q_Mem} {σ : a_A} {o : Nat} (hm : mOk Sh o) {T F : Nat} (hW : a_W T F σ) (h0 : I o 0 = nI 0) {v : Nat} (hv : v < 6) (hz : I o 4 = nI (v + 1)) : q_Rt mX7_undo 0 [.ref o] Sh (q_setA I (o + 1) σ) (some (.int (nI v))) (q_setA (q_setA I o (upd (I o) 4 (nI v))) (o + 1) (fun k => I (o + 3) (267 * v + k))) := by
  refine q_rt_of (by decide) (Nat.le_of_ble_eq_true rfl) fun Γ BM => ?_
  have B := BM.1
  show q_W Γ mX7_undo 0 0 Sh (q_setA I (o + 1) σ) 0 [(0, .ref o)] []
  refine q_aload_n B dX7_undo_0 rfl rfl ?_
  refine q_iconst (v := nI 0) B dX7_undo_1 rfl ?_
  refine q_putSame B kC_X7 (k := 0) (by decide) rfl kf_X7_32 rfl rfl rfl hm.1 ((congrFun (q_setA_ne (by omega)) _).trans h0) dX7_undo_2 ?_
  refine q_aload_n B dX7_undo_5 rfl rfl ?_
  refine q_getIS B (by omega) kC_X7 (k := 4) (by decide) rfl kf_X7_36 hm.1 dX7_undo_6 ?_
  refine q_if_ne (tgt := 15) B dX7_undo_9 (by decide) (fun _ => ?_) (fun h => absurd h ((by rw [hz]; exact nI_ne0 (by omega) (by omega))))
  refine q_aload_n B dX7_undo_15 rfl rfl ?_
  refine q_dup B dX7_undo_16 rfl ?_
  refine q_getIS B (by omega) kC_X7 (k := 4) (by decide) rfl kf_X7_36 hm.1 dX7_undo_17 ?_
  refine q_top hz ?_
  refine q_iconst (v := nI 1) B dX7_undo_20 rfl ?_
  refine q_isub B dX7_undo_21 ?_
  refine q_top (q_nI_sub (Nat.le_add_left 1 v)) ?_
  rw [Nat.add_sub_cancel]
  refine q_putIS B (by omega) kC_X7 (k := 4) (by decide) rfl kf_X7_36 rfl rfl rfl hm.1 dX7_undo_22 ?_
  refine q_iconst (v := nI 0) B dX7_undo_25 rfl ?_
  refine q_istore_n B dX7_undo_26 rfl (Nat.le_of_ble_eq_true rfl) rfl ?_
  have hl_27 : ∀ (n i : Nat) , i + n = 267 → q_W Γ mX7_undo 0 0 Sh (q_setA (q_setA I o (upd (I o) 4 (nI v))) (o + 1) (a_cp i (fun k => I (o + 3) (267 * v + k)) σ)) 27 [(0, .ref o), (1, .int (nI i))] [] := by
    intro n
    induction n with
    | zero =>
      intro i  hin
      have hi : i = 267 := by omega
      subst hi
      refine q_iload_n B dX7_undo_27 rfl rfl ?_
      refine q_sipush (v := nI 267) B dX7_undo_28 rfl ?_
      refine q_icmp_ge (tgt := 61) B dX7_undo_31 (by decide) (fun _ => ?_) (fun h => absurd (q_le (Nat.le_refl 267) (by decide)) h)
      refine q_norm (mA_s hm) (by decide) (g := fun k => I (o + 3) (267 * v + k)) (fun j hj => a_cp_at (by omega)) ?_
      refine q_aload_n B dX7_undo_61 rfl rfl ?_
      refine q_getIS B (by omega) kC_X7 (k := 4) (by decide) rfl kf_X7_36 hm.1 dX7_undo_62 ?_
      refine q_top (y := nI v) ((congrFun (q_setA_at _ _ _) _).trans (q_upd_at _ _ _)) ?_
      exact q_iret BM rfl dX7_undo_65 ⟨rfl, rfl, rfl⟩
    | succ n ih =>
      intro i  hin
      have hiN : i < 267 := by omega
      refine q_iload_n B dX7_undo_27 rfl rfl ?_
      refine q_sipush (v := nI 267) B dX7_undo_28 rfl ?_
      refine q_icmp_ge (tgt := 61) B dX7_undo_31 (by decide) (fun h => absurd h (q_nle hiN (by decide))) (fun _ => ?_)
      refine q_aload_n B dX7_undo_34 rfl rfl ?_
      refine q_getR B kC_X7 (k := 1) (by decide) rfl kf_X7_7 hm.1 (mR_s hm) dX7_undo_35 ?_
      refine q_iload_n B dX7_undo_38 rfl rfl ?_
      refine q_aload_n B dX7_undo_39 rfl rfl ?_
      refine q_getR B kC_X7 (k := 3) (by decide) rfl kf_X7_16 hm.1 (mR_undos hm) dX7_undo_40 ?_
      refine q_sipush (v := nI 267) B dX7_undo_43 rfl ?_
      refine q_aload_n B dX7_undo_46 rfl rfl ?_
      refine q_getIS B (by omega) kC_X7 (k := 4) (by decide) rfl kf_X7_36 hm.1 dX7_undo_47 ?_
      refine q_top (y := nI v) ((congrFun (q_setA_at _ _ _) _).trans (q_upd_at _ _ _)) ?_
      refine q_imul B dX7_undo_50 ?_
      refine q_iload_n B dX7_undo_51 rfl rfl ?_
      refine q_iadd B dX7_undo_52 ?_
      refine q_ialdO (n := 267 * v + i) B (by omega) (mA_undos hm) (by simp only [nI_add, q_nI_mul]) (by omega) (by decide) dX7_undo_53 ?_
      refine q_top (y := I (o + 3) (267 * v + i)) (by rw [q_setA_ne (by omega)]) ?_
      refine q_iastS (n := i) B (mA_s hm) rfl (by omega) (by decide) dX7_undo_54 ?_
      refine q_iinc2 (y := nI (i + 1)) B dX7_undo_55 rfl (q_inc1 _) (Nat.le_of_ble_eq_true rfl) rfl ?_
      refine q_goto (tgt := 27) B dX7_undo_58 (by decide) ?_
      exact q_tkm (ih (i + 1) (by omega)) (by rw [show I (o + 3) (267 * v + i) = (fun k => I (o + 3) (267 * v + k)) i from rfl, a_cp_s]) rfl (q_ac rfl (q_ac rfl q_an))
  exact q_tkm (hl_27 267 0 (by omega)) (by rw [a_cp_0]) rfl (q_ac rfl (q_ac rfl q_an))
