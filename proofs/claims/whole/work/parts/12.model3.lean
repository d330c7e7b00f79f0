theorem s_nextForW {Sh : q_Sh} {I : q_Mem} {σ : a_A} {o : Nat} (hm : mOk Sh o) {T F : Nat} (hW : a_W T F σ) {kinds : Int32} : q_Rt mX7_nextFor 1 [.ref o, .int kinds] Sh (q_setA I (o + 1) σ) (some (.int (a_next σ kinds))) (q_setA I (o + 1) σ) :=
  s_nextFor hm (by rw [a_W_T hW]; exact hW.1.1) (by rw [a_W_T hW]; exact hW.1.2)
theorem s_withHowW {Sh : q_Sh} {I : q_Mem} {σ : a_A} {o : Nat} (hm : mOk Sh o) {T F : Nat} (hW : a_W T F σ) {h : Int32} : q_Rt mX7_withHow 1 [.ref o, .int h] Sh (q_setA I (o + 1) σ) (some (.int (a_how σ h))) (q_setA I (o + 1) σ) :=
  s_withHow hm (by rw [a_W_T hW]; exact hW.1.1) (by rw [a_W_T hW]; exact hW.1.2)
set_option maxRecDepth 100000 in
set_option maxHeartbeats 4000000 in
theorem s_works {Sh : q_Sh} {I : q_Mem} {σ : a_A} {o : Nat} (hm : mOk Sh o) {T F : Nat} (hW : a_W T F σ) {f t : Nat} (hf : f < F) (ht3 : t < 30) (hh : σ (27 + 6 * f + 2) = nI (t + 1)) : q_Rt mX7_works 3 [.ref o, .int (nI f)] Sh (q_setA I (o + 1) σ) (none) (q_setA I (o + 1) (a_works σ f)) := by
  refine q_rt_of (by decide) (Nat.le_of_ble_eq_true rfl) fun Γ BM => ?_
  have B := BM.1
  have hT := hW.1.1
  have hT2 := hW.1.2
  have hF := hW.2.1.1
  have hF2 := hW.2.1.2
  have htT : t < T := by
    obtain ⟨y, a, b, -⟩ := hW.2.2.2.2.2.2.1 f hf
    have := (nI_eq (by omega) (by omega)).mp (hh.symm.trans b)
    omega
  have et : a_n (σ (27 + 6 * f + 2)) - 1 = t := by rw [hh]; unfold a_n; rw [nI_clamp (by omega)]; omega
  show q_W Γ mX7_works 0 0 Sh (q_setA I (o + 1) σ) 0 [(0, .ref o), (1, .int (nI f))] []
  refine q_aload_n B dX7_works_0 rfl rfl ?_
  refine q_iload_n B dX7_works_1 rfl rfl ?_
  refine q_iconst (v := nI 2) B dX7_works_2 rfl ?_
  refine q_rtV B (s_fixer0 hm (by omega) (by decide)) kv_yX7_fixer0 ki_yX7_fixer0 ks_yX7_fixer0 km_X7_51 rfl (ci := 7) rfl rfl hm.1 (by decide) rfl (Nat.le_of_ble_eq_true rfl) dX7_works_3 ?_
  refine q_top hh ?_
  refine q_iconst (v := nI 1) B dX7_works_6 rfl ?_
  refine q_isub B dX7_works_7 ?_
  refine q_top (q_nI_sub (Nat.le_add_left 1 t)) ?_
  rw [Nat.add_sub_cancel]
  refine q_istore_n B dX7_works_8 rfl (Nat.le_of_ble_eq_true rfl) rfl ?_
  refine q_aload_n B dX7_works_9 rfl rfl ?_
  refine q_iload_n B dX7_works_10 rfl rfl ?_
  refine q_iconst (v := nI 5) B dX7_works_11 rfl ?_
  refine q_rtV B (s_more hm (by omega) (by decide)) kv_yX7_more ki_yX7_more ks_yX7_more km_X7_57 rfl (ci := 7) rfl rfl hm.1 (by decide) rfl (Nat.le_of_ble_eq_true rfl) dX7_works_12 ?_
  generalize hs1 : upd σ (27 + 6 * f + 5) (σ (27 + 6 * f + 5) + 1) = s1
  have hW1 : a_W T F s1 := by rw [← hs1]; exact a_W_free hW (by unfold a_free; omega)
  obtain ⟨k, hk, ek⟩ := hW1.2.2.1 t htT
  refine q_iconst (v := 1) B dX7_works_15 rfl ?_
  refine q_istore_n B dX7_works_16 rfl (Nat.le_of_ble_eq_true rfl) rfl ?_
  have j_56 : ∀ (σ1 : a_A) (v : Int32), a_work1 s1 f t = (σ1, v) → q_W Γ mX7_works 0 0 Sh (q_setA I (o + 1) σ1) 56 [(0, .ref o), (1, .int (nI f)), (2, .int (nI t)), (3, .int v)] [] := by
    intro σ1 v hr
    have hwk : a_works σ f = if v = 0 then a_givesUp σ1 f t else if σ1 (57 + 7 * t + 1) = 0 ∧ σ1 (57 + 7 * t + 3) = 0 then upd (upd (upd σ1 (57 + 7 * t + 4) (nI 2)) (27 + 6 * f + 3) (upd σ1 (57 + 7 * t + 4) (nI 2) (27 + 6 * f + 3) + 1)) (27 + 6 * f + 2) 0 else σ1 := by
      unfold a_works
      dsimp only
      rw [et, hs1, hr]
    have ek1 : σ1 (57 + 7 * t) = nI k := by
      have := a_work1_at (σ := s1) (f := f) (t := t) (j := 57 + 7 * t) (by omega) (by omega) (by omega) (by omega) (by omega)
      rw [hr, ek] at this
      exact this
    refine q_iload_n B dX7_works_56 rfl rfl ?_
    refine q_if_ne (tgt := 69) B dX7_works_57 (by decide) (fun c_57 => ?_) (fun c_57 => ?_)
    · skip
      refine q_aload_n B dX7_works_69 rfl rfl ?_
      refine q_iload_n B dX7_works_70 rfl rfl ?_
      refine q_iconst (v := nI 1) B dX7_works_71 rfl ?_
      refine q_rtV B (s_of hm ht3 (by decide)) kv_yX7_of ki_yX7_of ks_yX7_of km_X7_39 rfl (ci := 7) rfl rfl hm.1 (by decide) rfl (Nat.le_of_ble_eq_true rfl) dX7_works_72 ?_
      refine q_if_ne (tgt := 105) B dX7_works_75 (by decide) (fun c_75 => ?_) (fun c_75 => ?_)
      · skip
        exact q_vret BM rfl dX7_works_105 ⟨rfl, rfl, by first | (rw [hwk, if_pos c_57]; done) | (rw [hwk, if_neg c_57, if_pos ⟨c_75, c_84⟩]; done) | (rw [hwk, if_neg c_57, if_neg (fun h => c_75 h.1)]; done) | (rw [hwk, if_neg c_57, if_neg (fun h => c_84 h.2)]; done)⟩
      · skip
        refine q_aload_n B dX7_works_78 rfl rfl ?_
        refine q_iload_n B dX7_works_79 rfl rfl ?_
        refine q_iconst (v := nI 3) B dX7_works_80 rfl ?_
        refine q_rtV B (s_of hm ht3 (by decide)) kv_yX7_of ki_yX7_of ks_yX7_of km_X7_39 rfl (ci := 7) rfl rfl hm.1 (by decide) rfl (Nat.le_of_ble_eq_true rfl) dX7_works_81 ?_
        refine q_if_ne (tgt := 105) B dX7_works_84 (by decide) (fun c_84 => ?_) (fun c_84 => ?_)
        · skip
          exact q_vret BM rfl dX7_works_105 ⟨rfl, rfl, by first | (rw [hwk, if_pos c_57]; done) | (rw [hwk, if_neg c_57, if_pos ⟨c_75, c_84⟩]; done) | (rw [hwk, if_neg c_57, if_neg (fun h => c_75 h.1)]; done) | (rw [hwk, if_neg c_57, if_neg (fun h => c_84 h.2)]; done)⟩
        · skip
          refine q_aload_n B dX7_works_87 rfl rfl ?_
          refine q_iload_n B dX7_works_88 rfl rfl ?_
          refine q_iconst (v := nI 4) B dX7_works_89 rfl ?_
          refine q_iconst (v := nI 2) B dX7_works_90 rfl ?_
          refine q_rtV B (s_lay hm ht3 (by decide)) kv_yX7_lay ki_yX7_lay ks_yX7_lay km_X7_47 rfl (ci := 7) rfl rfl hm.1 (by decide) rfl (Nat.le_of_ble_eq_true rfl) dX7_works_91 ?_
          refine q_aload_n B dX7_works_94 rfl rfl ?_
          refine q_iload_n B dX7_works_95 rfl rfl ?_
          refine q_iconst (v := nI 3) B dX7_works_96 rfl ?_
          refine q_rtV B (s_more hm (by omega) (by decide)) kv_yX7_more ki_yX7_more ks_yX7_more km_X7_57 rfl (ci := 7) rfl rfl hm.1 (by decide) rfl (Nat.le_of_ble_eq_true rfl) dX7_works_97 ?_
          refine q_aload_n B dX7_works_100 rfl rfl ?_
          refine q_iload_n B dX7_works_101 rfl rfl ?_
          refine q_rtV B (s_frees hm (by omega)) kv_yX7_frees ki_yX7_frees ks_yX7_frees km_X7_61 rfl (ci := 7) rfl rfl hm.1 (by decide) rfl (Nat.le_of_ble_eq_true rfl) dX7_works_102 ?_
          exact q_vret BM rfl dX7_works_105 ⟨rfl, rfl, by first | (rw [hwk, if_pos c_57]; done) | (rw [hwk, if_neg c_57, if_pos ⟨c_75, c_84⟩]; done) | (rw [hwk, if_neg c_57, if_neg (fun h => c_75 h.1)]; done) | (rw [hwk, if_neg c_57, if_neg (fun h => c_84 h.2)]; done)⟩
    · skip
      refine q_aload_n B dX7_works_60 rfl rfl ?_
      refine q_iload_n B dX7_works_61 rfl rfl ?_
      refine q_iload_n B dX7_works_62 rfl rfl ?_
      refine q_rtV B (s_givesUp hm (by omega) ht3 hk ek1) kv_yX7_givesUp ki_yX7_givesUp ks_yX7_givesUp km_X7_76 rfl (ci := 7) rfl rfl hm.1 (by decide) rfl (Nat.le_of_ble_eq_true rfl) dX7_works_63 ?_
      refine q_goto (tgt := 105) B dX7_works_66 (by decide) ?_
      exact q_vret BM rfl dX7_works_105 ⟨rfl, rfl, by first | (rw [hwk, if_pos c_57]; done) | (rw [hwk, if_neg c_57, if_pos ⟨c_75, c_84⟩]; done) | (rw [hwk, if_neg c_57, if_neg (fun h => c_75 h.1)]; done) | (rw [hwk, if_neg c_57, if_neg (fun h => c_84 h.2)]; done)⟩
  refine q_aload_n B dX7_works_17 rfl rfl ?_
  refine q_iload_n B dX7_works_18 rfl rfl ?_
  refine q_iconst (v := nI 1) B dX7_works_19 rfl ?_
  refine q_rtV B (s_of hm ht3 (by decide)) kv_yX7_of ki_yX7_of ks_yX7_of km_X7_39 rfl (ci := 7) rfl rfl hm.1 (by decide) rfl (Nat.le_of_ble_eq_true rfl) dX7_works_20 ?_
  refine q_if_eq (tgt := 35) B dX7_works_23 (by decide) (fun c_23 => ?_) (fun c_23 => ?_)
  · skip
    refine q_aload_n B dX7_works_35 rfl rfl ?_
    refine q_iload_n B dX7_works_36 rfl rfl ?_
    refine q_iconst (v := nI 3) B dX7_works_37 rfl ?_
    refine q_rtV B (s_of hm ht3 (by decide)) kv_yX7_of ki_yX7_of ks_yX7_of km_X7_39 rfl (ci := 7) rfl rfl hm.1 (by decide) rfl (Nat.le_of_ble_eq_true rfl) dX7_works_38 ?_
    refine q_if_eq (tgt := 56) B dX7_works_41 (by decide) (fun c_41 => ?_) (fun c_41 => ?_)
    · skip
      exact q_tk (j_56 _ _ (by first | (simp [a_work1, c_23, c_41]; done) | (simp [a_work1, c_23]; done))) rfl (q_ac rfl (q_ac rfl (q_ac rfl (q_ac rfl q_an))))
    · skip
      refine q_aload_n B dX7_works_44 rfl rfl ?_
      refine q_iload_n B dX7_works_45 rfl rfl ?_
      refine q_aload_n B dX7_works_46 rfl rfl ?_
      refine q_iload_n B dX7_works_47 rfl rfl ?_
      refine q_iconst (v := nI 1) B dX7_works_48 rfl ?_
      refine q_rtV B (s_fixer0 hm (by omega) (by decide)) kv_yX7_fixer0 ki_yX7_fixer0 ks_yX7_fixer0 km_X7_51 rfl (ci := 7) rfl rfl hm.1 (by decide) rfl (Nat.le_of_ble_eq_true rfl) dX7_works_49 ?_
      refine q_rtV B (s_tests hm ht3) kv_yX7_tests ki_yX7_tests ks_yX7_tests km_X7_72 rfl (ci := 7) rfl rfl hm.1 (by decide) rfl (Nat.le_of_ble_eq_true rfl) dX7_works_52 ?_
      refine q_istore_n B dX7_works_55 rfl (Nat.le_of_ble_eq_true rfl) rfl ?_
      exact q_tk (j_56 _ _ (by first | (simp [a_work1, c_23, c_41]; done) | (simp [a_work1, c_23]; done))) rfl (q_ac rfl (q_ac rfl (q_ac rfl (q_ac rfl q_an))))
  · skip
    obtain ⟨m, hm2, em⟩ := hW1.2.2.2.1 t htT
    have hmz : m ≠ 0 := fun q => c_23 (by rw [em, q]; rfl)
    refine q_aload_n B dX7_works_26 rfl rfl ?_
    refine q_iload_n B dX7_works_27 rfl rfl ?_
    refine q_rtV B (s_exchanges hm ht3 hm2 hmz em) kv_yX7_exchanges ki_yX7_exchanges ks_yX7_exchanges km_X7_68 rfl (ci := 7) rfl rfl hm.1 (by decide) rfl (Nat.le_of_ble_eq_true rfl) dX7_works_28 ?_
    refine q_istore_n B dX7_works_31 rfl (Nat.le_of_ble_eq_true rfl) rfl ?_
    refine q_goto (tgt := 56) B dX7_works_32 (by decide) ?_
    exact q_tk (j_56 _ _ (by first | (simp [a_work1, c_23, c_41]; done) | (simp [a_work1, c_23]; done))) rfl (q_ac rfl (q_ac rfl (q_ac rfl (q_ac rfl q_an))))
set_option maxRecDepth 100000 in
set_option maxHeartbeats 4000000 in
theorem s_takes {Sh : q_Sh} {I : q_Mem} {σ : a_A} {o : Nat} (hm : mOk Sh o) {T F : Nat} (hW : a_W T F σ) {f : Nat} (hf : f < F) : q_Rt mX7_takes 2 [.ref o, .int (nI f)] Sh (q_setA I (o + 1) σ) (none) (q_setA I (o + 1) (a_takes σ f)) := by
  refine q_rt_of (by decide) (Nat.le_of_ble_eq_true rfl) fun Γ BM => ?_
  have B := BM.1
  have hT := hW.1.1
  have hT2 := hW.1.2
  have hF := hW.2.1.1
  have hF2 := hW.2.1.2
  show q_W Γ mX7_takes 0 0 Sh (q_setA I (o + 1) σ) 0 [(0, .ref o), (1, .int (nI f))] []
  refine q_aload_n B dX7_takes_0 rfl rfl ?_
  refine q_aload_n B dX7_takes_1 rfl rfl ?_
  refine q_iload_n B dX7_takes_2 rfl rfl ?_
  refine q_iconst (v := nI 0) B dX7_takes_3 rfl ?_
  refine q_rtV B (s_fixer0_0 hm (by omega)) kv_yX7_fixer0 ki_yX7_fixer0 ks_yX7_fixer0 km_X7_51 rfl (ci := 7) rfl rfl hm.1 (by decide) rfl (Nat.le_of_ble_eq_true rfl) dX7_takes_4 ?_
  refine q_rtV B (s_nextForW hm hW) kv_yX7_nextFor ki_yX7_nextFor ks_yX7_nextFor km_X7_79 rfl (ci := 7) rfl rfl hm.1 (by decide) rfl (Nat.le_of_ble_eq_true rfl) dX7_takes_7 ?_
  refine q_istore_n B dX7_takes_10 rfl (Nat.le_of_ble_eq_true rfl) rfl ?_
  refine q_iload_n B dX7_takes_11 rfl rfl ?_
  refine q_bipush (v := -6) B dX7_takes_12 rfl ?_
  refine q_icmp_eq (tgt := 41) B dX7_takes_14 (by decide) (fun c_14 => ?_) (fun c_14 => ?_)
  · skip
    exact q_vret BM rfl dX7_takes_41 ⟨rfl, rfl, by unfold a_takes; dsimp only; first | (rw [if_pos c_14]; done) | (rw [if_neg c_14, haj]; done)⟩
  · skip
    obtain ⟨j, hj, hbj, -⟩ := (a_next_in hW (σ (27 + 6 * f))).resolve_left c_14
    have haj : a_n (a_next σ (σ (27 + 6 * f))) = j := by rw [hbj]; exact nI_clamp (by omega)
    refine q_aload_n B dX7_takes_17 rfl rfl ?_
    refine q_iload_n B dX7_takes_18 rfl rfl ?_
    refine q_top hbj ?_
    refine q_iconst (v := nI 4) B dX7_takes_19 rfl ?_
    refine q_iconst (v := nI 1) B dX7_takes_20 rfl ?_
    refine q_rtV B (s_lay hm (by omega) (by decide)) kv_yX7_lay ki_yX7_lay ks_yX7_lay km_X7_47 rfl (ci := 7) rfl rfl hm.1 (by decide) rfl (Nat.le_of_ble_eq_true rfl) dX7_takes_21 ?_
    refine q_aload_n B dX7_takes_24 rfl rfl ?_
    refine q_getR B kC_X7 (k := 1) (by decide) rfl kf_X7_7 hm.1 (mR_s hm) dX7_takes_25 ?_
    refine q_bipush (v := nI 27) B dX7_takes_28 rfl ?_
    refine q_bipush (v := nI 6) B dX7_takes_30 rfl ?_
    refine q_iload_n B dX7_takes_32 rfl rfl ?_
    refine q_imul B dX7_takes_33 ?_
    refine q_iadd B dX7_takes_34 ?_
    refine q_iconst (v := nI 2) B dX7_takes_35 rfl ?_
    refine q_iadd B dX7_takes_36 ?_
    refine q_iload_n B dX7_takes_37 rfl rfl ?_
    refine q_iconst (v := 1) B dX7_takes_38 rfl ?_
    refine q_iadd B dX7_takes_39 ?_
    refine q_iastS (n := 27 + 6 * f + 2) B (mA_s hm) (by simp only [nI_add, q_nI_mul]) (by omega) (by decide) dX7_takes_40 ?_
    exact q_vret BM rfl dX7_takes_41 ⟨rfl, rfl, by unfold a_takes; dsimp only; first | (rw [if_pos c_14]; done) | (rw [if_neg c_14, haj]; done)⟩
set_option maxRecDepth 100000 in
set_option maxHeartbeats 4000000 in
theorem s_minute {Sh : q_Sh} {I : q_Mem} {σ : a_A} {o : Nat} (hm : mOk Sh o) {T F : Nat} (hW : a_W T F σ) : q_Rt mX7_minute 4 [.ref o] Sh (q_setA I (o + 1) σ) (none) (q_setA I (o + 1) (a_minute σ)) := by
  refine q_rt_of (by decide) (Nat.le_of_ble_eq_true rfl) fun Γ BM => ?_
  have B := BM.1
  have hT := hW.1.1
  have hT2 := hW.1.2
  have hF := hW.2.1.1
  have hF2 := hW.2.1.2
  show q_W Γ mX7_minute 0 0 Sh (q_setA I (o + 1) σ) 0 [(0, .ref o)] []
  refine q_iconst (v := nI 0) B dX7_minute_0 rfl ?_
  refine q_istore_n B dX7_minute_1 rfl (Nat.le_of_ble_eq_true rfl) rfl ?_
  have hl_2 : ∀ (n i : Nat) (σ1 : a_A), i + n = F → q_fold a_min1 i σ = σ1 → q_W Γ mX7_minute 0 0 Sh (q_setA I (o + 1) σ1) 2 [(0, .ref o), (1, .int (nI i))] [] := by
    intro n
    induction n with
    | zero =>
      intro i σ1 hin hinv
      have hi : i = F := by omega
      subst hi
      have e1 := hinv
      have hW1 : a_W T i σ1 := by rw [← hinv]; exact a_fold_W (f := a_min1) (N := i) (fun j s hj hs => a_min1_W hj hs) i σ (Nat.le_refl i) hW
      have hF1 := hW1.2.1.1
      refine q_iload_n B dX7_minute_2 rfl rfl ?_
      refine q_aload_n B dX7_minute_3 rfl rfl ?_
      refine q_getR B kC_X7 (k := 1) (by decide) rfl kf_X7_7 hm.1 (mR_s hm) dX7_minute_4 ?_
      refine q_iconst (v := nI 2) B dX7_minute_7 rfl ?_
      refine q_ialdS2 (n := 2) B (mA_s hm) rfl (by omega) (by decide) hF1 dX7_minute_8 ?_
      refine q_icmp_ge (tgt := 32) B dX7_minute_9 (by decide) (fun _ => ?_) (fun h => absurd (q_le (Nat.le_refl _) (by omega)) h)
      refine q_iconst (v := nI 0) B dX7_minute_32 rfl ?_
      refine q_istore_n B dX7_minute_33 rfl (Nat.le_of_ble_eq_true rfl) rfl ?_
      have hl_34 : ∀ (n j : Nat) (σ2 : a_A), j + n = i → q_fold a_min2 j σ1 = σ2 → q_W Γ mX7_minute 0 0 Sh (q_setA I (o + 1) σ2) 34 [(0, .ref o), (1, .int (nI j))] [] := by
        intro n
        induction n with
        | zero =>
          intro j σ2 hin hinv2
          have hi : j = i := by omega
          subst hi
          have e2 := hinv2
          have hW2 : a_W T j σ2 := by rw [← hinv2]; exact a_fold_W (f := a_min2) (N := j) (fun j s hj hs => a_min2_W hj hs) j σ1 (Nat.le_refl j) hW1
          have hF1 := hW2.2.1.1
          refine q_iload_n B dX7_minute_34 rfl rfl ?_
          refine q_aload_n B dX7_minute_35 rfl rfl ?_
          refine q_getR B kC_X7 (k := 1) (by decide) rfl kf_X7_7 hm.1 (mR_s hm) dX7_minute_36 ?_
          refine q_iconst (v := nI 2) B dX7_minute_39 rfl ?_
          refine q_ialdS2 (n := 2) B (mA_s hm) rfl (by omega) (by decide) hF1 dX7_minute_40 ?_
          refine q_icmp_ge (tgt := 64) B dX7_minute_41 (by decide) (fun _ => ?_) (fun h => absurd (q_le (Nat.le_refl _) (by omega)) h)
          refine q_iconst (v := nI 0) B dX7_minute_64 rfl ?_
          refine q_istore_n B dX7_minute_65 rfl (Nat.le_of_ble_eq_true rfl) rfl ?_
          have hl_66 : ∀ (n x : Nat) (σ3 : a_A), x + n = T → q_fold a_min3 x σ2 = σ3 → q_W Γ mX7_minute 0 0 Sh (q_setA I (o + 1) σ3) 66 [(0, .ref o), (1, .int (nI x))] [] := by
            intro n
            induction n with
            | zero =>
              intro x σ3 hin hinv3
              have hi : x = T := by omega
              subst hi
              have hW3 : a_W x j σ3 := by rw [← hinv3]; exact a_fold_W (f := a_min3) (N := x) (fun j s hj hs => a_min3_W hj hs) x σ2 (Nat.le_refl x) hW2
              have hT1 := hW3.1.1
              have hmin : a_minute σ = upd σ3 0 (σ3 0 + 1) := by unfold a_minute; dsimp only; rw [a_W_F hW, a_W_T hW, e1, e2, hinv3]
              refine q_iload_n B dX7_minute_66 rfl rfl ?_
              refine q_aload_n B dX7_minute_67 rfl rfl ?_
              refine q_getR B kC_X7 (k := 1) (by decide) rfl kf_X7_7 hm.1 (mR_s hm) dX7_minute_68 ?_
              refine q_iconst (v := nI 1) B dX7_minute_71 rfl ?_
              refine q_ialdS2 (n := 1) B (mA_s hm) rfl (by omega) (by decide) hT1 dX7_minute_72 ?_
              refine q_icmp_ge (tgt := 125) B dX7_minute_73 (by decide) (fun _ => ?_) (fun h => absurd (q_le (Nat.le_refl _) (by omega)) h)
              refine q_aload_n B dX7_minute_125 rfl rfl ?_
              refine q_getR B kC_X7 (k := 1) (by decide) rfl kf_X7_7 hm.1 (mR_s hm) dX7_minute_126 ?_
              refine q_iconst (v := nI 0) B dX7_minute_129 rfl ?_
              refine q_dup2 B dX7_minute_130 rfl rfl ?_
              refine q_ialdS (n := 0) B (mA_s hm) rfl (by omega) (by decide) dX7_minute_131 ?_
              refine q_iconst (v := 1) B dX7_minute_132 rfl ?_
              refine q_iadd B dX7_minute_133 ?_
              refine q_iastS (n := 0) B (mA_s hm) rfl (by omega) (by decide) dX7_minute_134 ?_
              exact q_vret BM rfl dX7_minute_135 ⟨rfl, rfl, by rw [hmin]⟩
            | succ n ih =>
              intro x σ3 hin hinv3
              have hiN : x < T := by omega
              have hW3 : a_W T j σ3 := by rw [← hinv3]; exact a_fold_W (f := a_min3) (N := T) (fun j s hj hs => a_min3_W hj hs) x σ2 (by omega) hW2
              have hT1 := hW3.1.1
              refine q_iload_n B dX7_minute_66 rfl rfl ?_
              refine q_aload_n B dX7_minute_67 rfl rfl ?_
              refine q_getR B kC_X7 (k := 1) (by decide) rfl kf_X7_7 hm.1 (mR_s hm) dX7_minute_68 ?_
              refine q_iconst (v := nI 1) B dX7_minute_71 rfl ?_
              refine q_ialdS2 (n := 1) B (mA_s hm) rfl (by omega) (by decide) hT1 dX7_minute_72 ?_
              refine q_icmp_ge (tgt := 125) B dX7_minute_73 (by decide) (fun h => absurd h (q_nle hiN (by omega))) (fun _ => ?_)
              refine q_aload_n B dX7_minute_76 rfl rfl ?_
              refine q_iload_n B dX7_minute_77 rfl rfl ?_
              refine q_iconst (v := nI 4) B dX7_minute_78 rfl ?_
              refine q_rtV B (s_of hm (by omega) (by decide)) kv_yX7_of ki_yX7_of ks_yX7_of km_X7_39 rfl (ci := 7) rfl rfl hm.1 (by decide) rfl (Nat.le_of_ble_eq_true rfl) dX7_minute_79 ?_
              refine q_if_ne (tgt := 119) B dX7_minute_82 (by decide) (fun c_82 => ?_) (fun c_82 => ?_)
              · skip
                refine q_iinc2 (y := nI (x + 1)) B dX7_minute_119 rfl (q_inc1 _) (Nat.le_of_ble_eq_true rfl) rfl ?_
                refine q_goto (tgt := 66) B dX7_minute_122 (by decide) ?_
                exact q_tk (ih (x + 1) _ (by omega) (by show a_min3 x (q_fold _ x _) = _; rw [hinv3]; first | exact if_pos c_82 | exact if_neg c_82)) rfl (q_ac rfl (q_ac rfl q_an))
              · skip
                refine q_aload_n B dX7_minute_85 rfl rfl ?_
                refine q_iload_n B dX7_minute_86 rfl rfl ?_
                refine q_iconst (v := nI 2) B dX7_minute_87 rfl ?_
                refine q_aload_n B dX7_minute_88 rfl rfl ?_
                refine q_iload_n B dX7_minute_89 rfl rfl ?_
                refine q_iconst (v := nI 2) B dX7_minute_90 rfl ?_
                refine q_rtV B (s_of hm (by omega) (by decide)) kv_yX7_of ki_yX7_of ks_yX7_of km_X7_39 rfl (ci := 7) rfl rfl hm.1 (by decide) rfl (Nat.le_of_ble_eq_true rfl) dX7_minute_91 ?_
                refine q_iconst (v := 1) B dX7_minute_94 rfl ?_
                refine q_isub B dX7_minute_95 ?_
                refine q_rtV B (s_lay hm (by omega) (by decide)) kv_yX7_lay ki_yX7_lay ks_yX7_lay km_X7_47 rfl (ci := 7) rfl rfl hm.1 (by decide) rfl (Nat.le_of_ble_eq_true rfl) dX7_minute_96 ?_
                refine q_aload_n B dX7_minute_99 rfl rfl ?_
                refine q_iload_n B dX7_minute_100 rfl rfl ?_
                refine q_iconst (v := nI 4) B dX7_minute_101 rfl ?_
                refine q_join 116 (if σ3 (57 + 7 * x + 2) - 1 = 0 then nI 4 else 0) ?_ (fun j_102 => ?_)
                · skip
                  refine q_rtV B (s_lay hm (by omega) (by decide)) kv_yX7_lay ki_yX7_lay ks_yX7_lay km_X7_47 rfl (ci := 7) rfl rfl hm.1 (by decide) rfl (Nat.le_of_ble_eq_true rfl) dX7_minute_116 ?_
                  refine q_iinc2 (y := nI (x + 1)) B dX7_minute_119 rfl (q_inc1 _) (Nat.le_of_ble_eq_true rfl) rfl ?_
                  refine q_goto (tgt := 66) B dX7_minute_122 (by decide) ?_
                  exact q_tk (ih (x + 1) _ (by omega) (by show a_min3 x (q_fold _ x _) = _; rw [hinv3]; first | exact if_pos c_82 | exact if_neg c_82)) rfl (q_ac rfl (q_ac rfl q_an))
                · skip
                  refine q_aload_n B dX7_minute_102 rfl rfl ?_
                  refine q_iload_n B dX7_minute_103 rfl rfl ?_
                  refine q_iconst (v := nI 2) B dX7_minute_104 rfl ?_
                  refine q_rtV B (s_of hm (by omega) (by decide)) kv_yX7_of ki_yX7_of ks_yX7_of km_X7_39 rfl (ci := 7) rfl rfl hm.1 (by decide) rfl (Nat.le_of_ble_eq_true rfl) dX7_minute_105 ?_
                  refine q_top (q_upd_at _ _ _) ?_
                  refine q_if_ne (tgt := 115) B dX7_minute_108 (by decide) (fun c_108 => ?_) (fun c_108 => ?_)
                  · skip
                    refine q_iconst (v := 0) B dX7_minute_115 rfl ?_
                    exact q_top (by first | (rw [if_pos c_108]; done) | (rw [if_neg c_108]; done)) j_102
                  · skip
                    refine q_iconst (v := nI 4) B dX7_minute_111 rfl ?_
                    refine q_goto (tgt := 116) B dX7_minute_112 (by decide) ?_
                    exact q_top (by first | (rw [if_pos c_108]; done) | (rw [if_neg c_108]; done)) j_102
          exact q_tk (hl_66 T 0 σ2 (by omega) rfl) rfl (q_ac rfl (q_ac rfl q_an))
        | succ n ih =>
          intro j σ2 hin hinv2
          have hiN : j < i := by omega
          have hW2 : a_W T i σ2 := by rw [← hinv2]; exact a_fold_W (f := a_min2) (N := i) (fun j s hj hs => a_min2_W hj hs) j σ1 (by omega) hW1
          have hF1 := hW2.2.1.1
          refine q_iload_n B dX7_minute_34 rfl rfl ?_
          refine q_aload_n B dX7_minute_35 rfl rfl ?_
          refine q_getR B kC_X7 (k := 1) (by decide) rfl kf_X7_7 hm.1 (mR_s hm) dX7_minute_36 ?_
          refine q_iconst (v := nI 2) B dX7_minute_39 rfl ?_
          refine q_ialdS2 (n := 2) B (mA_s hm) rfl (by omega) (by decide) hF1 dX7_minute_40 ?_
          refine q_icmp_ge (tgt := 64) B dX7_minute_41 (by decide) (fun h => absurd h (q_nle hiN (by omega))) (fun _ => ?_)
          refine q_aload_n B dX7_minute_44 rfl rfl ?_
          refine q_iload_n B dX7_minute_45 rfl rfl ?_
          refine q_iconst (v := nI 2) B dX7_minute_46 rfl ?_
          refine q_rtV B (s_fixer0 hm (by omega) (by decide)) kv_yX7_fixer0 ki_yX7_fixer0 ks_yX7_fixer0 km_X7_51 rfl (ci := 7) rfl rfl hm.1 (by decide) rfl (Nat.le_of_ble_eq_true rfl) dX7_minute_47 ?_
          refine q_if_le (tgt := 58) B dX7_minute_50 (by decide) (fun c_50 => ?_) (fun c_50 => ?_)
          · skip
            refine q_iinc2 (y := nI (j + 1)) B dX7_minute_58 rfl (q_inc1 _) (Nat.le_of_ble_eq_true rfl) rfl ?_
            refine q_goto (tgt := 34) B dX7_minute_61 (by decide) ?_
            exact q_tk (ih (j + 1) _ (by omega) (by show a_min2 j (q_fold _ j _) = _; rw [hinv2]; first | exact if_pos (Int32.not_le.mp c_50) | exact if_neg (Int32.not_lt.mpr c_50))) rfl (q_ac rfl (q_ac rfl q_an))
          · skip
            have hp := Int32.not_le.mp c_50
            obtain ⟨t, ht3, hh⟩ := a_has_pos hW2 hiN hp
            refine q_aload_n B dX7_minute_53 rfl rfl ?_
            refine q_iload_n B dX7_minute_54 rfl rfl ?_
            refine q_rtV B (s_works hm hW2 hiN ht3 hh) kv_yX7_works ki_yX7_works ks_yX7_works km_X7_85 rfl (ci := 7) rfl rfl hm.1 (by decide) rfl (Nat.le_of_ble_eq_true rfl) dX7_minute_55 ?_
            refine q_iinc2 (y := nI (j + 1)) B dX7_minute_58 rfl (q_inc1 _) (Nat.le_of_ble_eq_true rfl) rfl ?_
            refine q_goto (tgt := 34) B dX7_minute_61 (by decide) ?_
            exact q_tk (ih (j + 1) _ (by omega) (by show a_min2 j (q_fold _ j _) = _; rw [hinv2]; first | exact if_pos (Int32.not_le.mp c_50) | exact if_neg (Int32.not_lt.mpr c_50))) rfl (q_ac rfl (q_ac rfl q_an))
      exact q_tk (hl_34 i 0 σ1 (by omega) rfl) rfl (q_ac rfl (q_ac rfl q_an))
    | succ n ih =>
      intro i σ1 hin hinv
      have hiN : i < F := by omega
      have hW1 : a_W T F σ1 := by rw [← hinv]; exact a_fold_W (f := a_min1) (N := F) (fun j s hj hs => a_min1_W hj hs) i σ (by omega) hW
      have hF1 := hW1.2.1.1
      refine q_iload_n B dX7_minute_2 rfl rfl ?_
      refine q_aload_n B dX7_minute_3 rfl rfl ?_
      refine q_getR B kC_X7 (k := 1) (by decide) rfl kf_X7_7 hm.1 (mR_s hm) dX7_minute_4 ?_
      refine q_iconst (v := nI 2) B dX7_minute_7 rfl ?_
      refine q_ialdS2 (n := 2) B (mA_s hm) rfl (by omega) (by decide) hF1 dX7_minute_8 ?_
      refine q_icmp_ge (tgt := 32) B dX7_minute_9 (by decide) (fun h => absurd h (q_nle hiN (by omega))) (fun _ => ?_)
      refine q_aload_n B dX7_minute_12 rfl rfl ?_
      refine q_iload_n B dX7_minute_13 rfl rfl ?_
      refine q_iconst (v := nI 2) B dX7_minute_14 rfl ?_
      refine q_rtV B (s_fixer0 hm (by omega) (by decide)) kv_yX7_fixer0 ki_yX7_fixer0 ks_yX7_fixer0 km_X7_51 rfl (ci := 7) rfl rfl hm.1 (by decide) rfl (Nat.le_of_ble_eq_true rfl) dX7_minute_15 ?_
      refine q_if_ne (tgt := 26) B dX7_minute_18 (by decide) (fun c_18 => ?_) (fun c_18 => ?_)
      · skip
        refine q_iinc2 (y := nI (i + 1)) B dX7_minute_26 rfl (q_inc1 _) (Nat.le_of_ble_eq_true rfl) rfl ?_
        refine q_goto (tgt := 2) B dX7_minute_29 (by decide) ?_
        exact q_tk (ih (i + 1) _ (by omega) (by show a_min1 i (q_fold _ i _) = _; rw [hinv]; first | exact if_pos c_18 | exact if_neg c_18)) rfl (q_ac rfl (q_ac rfl q_an))
      · skip
        refine q_aload_n B dX7_minute_21 rfl rfl ?_
        refine q_iload_n B dX7_minute_22 rfl rfl ?_
        refine q_rtV B (s_takes hm hW1 hiN) kv_yX7_takes ki_yX7_takes ks_yX7_takes km_X7_82 rfl (ci := 7) rfl rfl hm.1 (by decide) rfl (Nat.le_of_ble_eq_true rfl) dX7_minute_23 ?_
        refine q_iinc2 (y := nI (i + 1)) B dX7_minute_26 rfl (q_inc1 _) (Nat.le_of_ble_eq_true rfl) rfl ?_
        refine q_goto (tgt := 2) B dX7_minute_29 (by decide) ?_
        exact q_tk (ih (i + 1) _ (by omega) (by show a_min1 i (q_fold _ i _) = _; rw [hinv]; first | exact if_pos c_18 | exact if_neg c_18)) rfl (q_ac rfl (q_ac rfl q_an))
  exact q_tk (hl_2 F 0 σ (by omega) rfl) rfl (q_ac rfl (q_ac rfl q_an))
set_option maxRecDepth 100000 in
set_option maxHeartbeats 4000000 in
theorem s_minutes {Sh : q_Sh} {I : q_Mem} {σ : a_A} {o : Nat} (hm : mOk Sh o) {T F : Nat} (hW : a_W T F σ) {k : Nat} (hk : k < 2 ^ 31) : q_Rt mX7_minutes 5 [.ref o, .int (nI k)] Sh (q_setA I (o + 1) σ) (some (.int (a_how (a_minutes k σ) (nI 2) - a_how σ (nI 2)))) (q_setA I (o + 1) (a_minutes k σ)) := by
  refine q_rt_of (by decide) (Nat.le_of_ble_eq_true rfl) fun Γ BM => ?_
  have B := BM.1
  show q_W Γ mX7_minutes 0 0 Sh (q_setA I (o + 1) σ) 0 [(0, .ref o), (1, .int (nI k))] []
  refine q_aload_n B dX7_minutes_0 rfl rfl ?_
  refine q_iconst (v := nI 2) B dX7_minutes_1 rfl ?_
  refine q_rtV B (s_withHowW hm hW) kv_yX7_withHow ki_yX7_withHow ks_yX7_withHow km_X7_88 rfl (ci := 7) rfl rfl hm.1 (by decide) rfl (Nat.le_of_ble_eq_true rfl) dX7_minutes_2 ?_
  refine q_istore_n B dX7_minutes_5 rfl (Nat.le_of_ble_eq_true rfl) rfl ?_
  refine q_iconst (v := nI 0) B dX7_minutes_6 rfl ?_
  refine q_istore_n B dX7_minutes_7 rfl (Nat.le_of_ble_eq_true rfl) rfl ?_
  have hl_8 : ∀ (n i : Nat) (σ1 : a_A), i + n = k → a_minutes i σ = σ1 → q_W Γ mX7_minutes 0 0 Sh (q_setA I (o + 1) σ1) 8 [(0, .ref o), (1, .int (nI k)), (2, .int (a_how σ (nI 2))), (3, .int (nI i))] [] := by
    intro n
    induction n with
    | zero =>
      intro i σ1 hin hinv
      have hi : i = k := by omega
      subst hi
      refine q_iload_n B dX7_minutes_8 rfl rfl ?_
      refine q_iload_n B dX7_minutes_9 rfl rfl ?_
      refine q_icmp_ge (tgt := 23) B dX7_minutes_10 (by decide) (fun _ => ?_) (fun h => absurd (q_le (Nat.le_refl _) hk) h)
      have hW1 : a_W T F σ1 := by rw [← hinv]; exact a_minutes_W hW i
      refine q_aload_n B dX7_minutes_23 rfl rfl ?_
      refine q_iconst (v := nI 2) B dX7_minutes_24 rfl ?_
      refine q_rtV B (s_withHowW hm hW1) kv_yX7_withHow ki_yX7_withHow ks_yX7_withHow km_X7_88 rfl (ci := 7) rfl rfl hm.1 (by decide) rfl (Nat.le_of_ble_eq_true rfl) dX7_minutes_25 ?_
      refine q_iload_n B dX7_minutes_28 rfl rfl ?_
      refine q_isub B dX7_minutes_29 ?_
      exact q_iret BM rfl dX7_minutes_30 ⟨by rw [hinv], rfl, by rw [hinv]⟩
    | succ n ih =>
      intro i σ1 hin hinv
      have hiN : i < k := by omega
      have hW1 : a_W T F σ1 := by rw [← hinv]; exact a_minutes_W hW i
      refine q_iload_n B dX7_minutes_8 rfl rfl ?_
      refine q_iload_n B dX7_minutes_9 rfl rfl ?_
      refine q_icmp_ge (tgt := 23) B dX7_minutes_10 (by decide) (fun h => absurd h (q_nle hiN hk)) (fun _ => ?_)
      refine q_aload_n B dX7_minutes_13 rfl rfl ?_
      refine q_rtV B (s_minute hm hW1) kv_yX7_minute ki_yX7_minute ks_yX7_minute km_X7_91 rfl (ci := 7) rfl rfl hm.1 (by decide) rfl (Nat.le_of_ble_eq_true rfl) dX7_minutes_14 ?_
      refine q_iinc2 (y := nI (i + 1)) B dX7_minutes_17 rfl (q_inc1 _) (Nat.le_of_ble_eq_true rfl) rfl ?_
      refine q_goto (tgt := 8) B dX7_minutes_20 (by decide) ?_
      exact q_tk (ih (i + 1) _ (by omega) (by rw [← hinv]; rfl)) rfl (q_ac rfl (q_ac rfl (q_ac rfl (q_ac rfl q_an))))
  exact q_tk (hl_8 k 0 σ (by omega) rfl) rfl (q_ac rfl (q_ac rfl (q_ac rfl (q_ac rfl q_an))))
