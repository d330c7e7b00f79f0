theorem a_work1_W2 {T F t f : Nat} {σ s1 : a_A} {v : Int32} (h : a_W T F σ) (ht : t < T) (e : a_work1 σ f t = (s1, v)) : a_W T F s1 := by
  have := a_work1_W (f := f) h ht
  rw [e] at this
  exact this
theorem a_work1_at2 {t f j : Nat} {σ s1 : a_A} {v : Int32} (e : a_work1 σ f t = (s1, v)) (hj : ¬ (3 ≤ j ∧ j < 19)) (h1 : j ≠ 57 + 7 * t + 1) (h2 : j ≠ 57 + 7 * t + 6) (h3 : j ≠ 57 + 7 * t + 3) (h4 : j ≠ 57 + 7 * t + 5) : s1 j = σ j := by
  have := a_work1_at (σ := σ) (f := f) (t := t) hj h1 h2 h3 h4
  rw [e] at this
  exact this
theorem a_work1_b {t f : Nat} {σ : a_A} (h : ¬ σ (57 + 7 * t + 1) = 0) : a_work1 σ f t = a_exch σ t := if_neg h
theorem Rd_F2 {T F b f : Nat} {I : q_Mem} {σ : a_A} {k : Nat} {v : Int32} (h : Rd T F b I σ) (hf : f < 5) (hk : k = 3 ∨ k = 4) : Rd T F b (q_setA (q_setA I (b + 34 + f) (upd (I (b + 34 + f)) 2 (-6))) (b + 34 + f) (upd (q_setA I (b + 34 + f) (upd (I (b + 34 + f)) 2 (-6)) (b + 34 + f)) k v)) (upd (upd σ (27 + 6 * f + k) v) (27 + 6 * f + 2) 0) := by
  rw [a_upd_comm (by omega)]
  exact Rd_F (k := k) (Rd_F (k := 2) (x := 0) h hf (by decide) rfl (by decide)) hf (by omega) (by rw [if_neg (by omega)]) (by omega)
set_option maxRecDepth 100000 in
set_option maxHeartbeats 4000000 in
theorem s_X0_workOf {Sh : q_Sh} {I : q_Mem} {σ : a_A} {b T F : Nat} (hc : cOk Sh b) (hR : Rc T F b I σ) {f : Nat} (hf : f < F) : q_Rp mX0_workOf 2 [.ref b, .int (nI f)] Sh (I) (fun w I2 => w = some (.int (a_how (a_min2 f σ) (nI 2) - a_how σ (nI 2))) ∧ Rc T F b I2 (a_min2 f σ) ∧ Fr b I I2) := by
  refine q_rp_of (by decide) (Nat.le_of_ble_eq_true rfl) fun Γ BM => ?_
  have B := BM.1
  have hT := hR.1.2.1.2.1
  have hT2 := hR.1.1.1
  have hF := hR.1.2.1.2.2
  have hF2 := hR.1.1.2
  have haT := a_W_T hR.2.2
  have haF := a_W_F hR.2.2
  obtain ⟨f0, f1, f2, f3, f4, f5⟩ := hR.1.2.2.2.1 f hf
  obtain ⟨h, hh1, hh, hh2⟩ := hR.2.2.2.2.2.2.2.2.1 f hf
  show q_W Γ mX0_workOf 0 0 Sh (I) 0 [(0, .ref b), (1, .int (nI f))] []
  refine q_aload_n B dX0_workOf_0 rfl rfl ?_
  refine q_iload_n B dX0_workOf_1 rfl rfl ?_
  refine q_rtV B (s_X0_fixerAt hc hF hF2 hf) kv_yX0_fixerAt ki_yX0_fixerAt ks_yX0_fixerAt km_X0_50 rfl (ci := 0) rfl rfl hc.1 (by decide) rfl (Nat.le_of_ble_eq_true rfl) dX0_workOf_2 ?_
  by_cases hz : σ (27 + 6 * f + 2) = 0
  · skip
    refine q_astore_n B dX0_workOf_5 rfl (Nat.le_of_ble_eq_true rfl) rfl ?_
    refine q_aload_n B dX0_workOf_6 rfl rfl ?_
    refine q_ifnonnull (tgt := 12) B dX0_workOf_7 (by decide) ?_
    refine q_aload_n B dX0_workOf_12 rfl rfl ?_
    refine q_aload_n B dX0_workOf_13 rfl rfl ?_
    refine q_getI2 B kC_X1 (k := 2) (by decide) rfl kf_X0_110 (cF hc (i := f) (by omega)) (f2.trans ((congrArg tk hz).trans (show tk 0 = -6 from rfl))) dX0_workOf_14 ?_
    refine q_rtV B (s_X0_thingAt_no hc hT (x := -6) (fun q => absurd q.1 (by decide))) kv_yX0_thingAt ki_yX0_thingAt ks_yX0_thingAt km_X0_42 rfl (ci := 0) rfl rfl hc.1 (by decide) rfl (Nat.le_of_ble_eq_true rfl) dX0_workOf_17 ?_
    refine q_astoreN_n B dX0_workOf_20 rfl (Nat.le_of_ble_eq_true rfl) rfl ?_
    refine q_aloadN_n B dX0_workOf_21 rfl rfl ?_
    refine q_ifnonnullN B dX0_workOf_22 ?_
    refine q_iconst (v := 0) B dX0_workOf_25 rfl ?_
    exact q_iret BM rfl dX0_workOf_26 ⟨rfl, by rw [a_min2, if_neg (by rw [hz]; decide), Int32.sub_self], by rw [a_min2, if_neg (by rw [hz]; decide)]; exact hR, Fr.rf⟩
  · skip
    have hp : 0 < σ (27 + 6 * f + 2) := by
      rw [hh]
      exact (nI_ltI (a := 0) (by decide) (by omega)).mpr (by have : h ≠ 0 := fun z => hz (by rw [hh, z]; rfl); omega)
    obtain ⟨t, rfl⟩ : ∃ t, h = t + 1 := ⟨h - 1, by have : h ≠ 0 := fun z => hz (by rw [hh, z]; rfl); omega⟩
    have ht : t < T := by omega
    have hm : a_min2 f σ = a_works σ f := if_pos hp
    have et : a_n (σ (27 + 6 * f + 2)) - 1 = t := by rw [hh]; unfold a_n; rw [nI_clamp (by omega)]; omega
    have hWs : a_W T F (a_works σ f) := a_works_W hR.2.2 hf hp
    have hW1 : a_W T F (upd σ (27 + 6 * f + 5) (σ (27 + 6 * f + 5) + 1)) := a_W_free hR.2.2 (by unfold a_free; omega)
    have how1 := hh2 t rfl
    have hR0 := Rd_F (k := 5) (x := σ (27 + 6 * f + 5) + 1) hR.1 (show f < 5 by omega) (by decide) (by rw [if_neg (by decide)]) (by decide)
    have hK0 : Kw b I (q_setA I (b + 34 + f) (upd (I (b + 34 + f)) 5 (σ (27 + 6 * f + 5) + 1))) := Kw.P (by omega)
    have hF0 : Fr b I (q_setA I (b + 34 + f) (upd (I (b + 34 + f)) 5 (σ (27 + 6 * f + 5) + 1))) := Fr.set (by omega) (by omega)
    refine q_astore_n B dX0_workOf_5 rfl (Nat.le_of_ble_eq_true rfl) rfl ?_
    refine q_aload_n B dX0_workOf_6 rfl rfl ?_
    refine q_ifnonnull (tgt := 12) B dX0_workOf_7 (by decide) ?_
    refine q_aload_n B dX0_workOf_12 rfl rfl ?_
    refine q_aload_n B dX0_workOf_13 rfl rfl ?_
    refine q_getI2 B kC_X1 (k := 2) (by decide) rfl kf_X0_110 (cF hc (i := f) (by omega)) ((f2.trans (congrArg tk hh)).trans (a_tk1 (by omega))) dX0_workOf_14 ?_
    refine q_rtV B (s_X0_thingAt hc hT hT2 ht) kv_yX0_thingAt ki_yX0_thingAt ks_yX0_thingAt km_X0_42 rfl (ci := 0) rfl rfl hc.1 (by decide) rfl (Nat.le_of_ble_eq_true rfl) dX0_workOf_17 ?_
    refine q_astore_n B dX0_workOf_20 rfl (Nat.le_of_ble_eq_true rfl) rfl ?_
    refine q_aload_n B dX0_workOf_21 rfl rfl ?_
    refine q_ifnonnull (tgt := 27) B dX0_workOf_22 (by decide) ?_
    refine q_aload_n B dX0_workOf_27 rfl rfl ?_
    refine q_dup B dX0_workOf_28 rfl ?_
    refine q_getI2 B kC_X1 (k := 5) (by decide) rfl kf_X0_122 (cF hc (i := f) (by omega)) f5 dX0_workOf_29 ?_
    refine q_iconst (v := 1) B dX0_workOf_32 rfl ?_
    refine q_iadd B dX0_workOf_33 ?_
    refine q_putI2 B kC_X1 (k := 5) (by decide) rfl kf_X0_122 rfl rfl rfl (cF hc (i := f) (by omega)) dX0_workOf_34 ?_
    have j_64 : ∀ (σ1 : a_A) (v : Int32) (J : q_Mem), a_work1 (upd σ (27 + 6 * f + 5) (σ (27 + 6 * f + 5) + 1)) f t = (σ1, v) ∧ Rd T F b J σ1 ∧ Kw b I J ∧ Fr b I J → q_W Γ mX0_workOf 0 0 Sh J 64 [(0, .ref b), (1, .int (nI f)), (2, .ref (b + 34 + f)), (3, .ref (b + 4 + t))] [.int v] := by
      intro σ1 v J hr
      obtain ⟨ew, hRJ, hKJ, hFJ⟩ := hr
      have hWJ := a_work1_W2 hW1 ht ew
      obtain ⟨b0, b6, b7⟩ := hRJ.2.2.1 t ht
      obtain ⟨g0, g1, g2, g3, g4, g5⟩ := hRJ.2.2.2.1 f hf
      have hasJ : ∀ g, g < F → σ1 (27 + 6 * g + 2) = σ (27 + 6 * g + 2) := fun g hg => by rw [a_work1_at2 ew (by omega) (by omega) (by omega) (by omega) (by omega), q_upd_ne (by omega)]
      have howJ : ∀ i, i < T → σ1 (57 + 7 * i + 4) = σ (57 + 7 * i + 4) := fun i hi => by rw [a_work1_at2 ew (by omega) (by omega) (by omega) (by omega) (by omega), q_upd_ne (by omega)]
      have hRwJ : Rw T b J σ1 := Rw_keep hR.2.1 hR.2.2 hWJ hKJ hasJ
      have eH : a_how σ1 (nI 2) = a_how σ (nI 2) := a_how_congr hR.2.2 hWJ howJ
      have hwk : a_works σ f = if v = 0 then a_givesUp σ1 f t else if σ1 (57 + 7 * t + 1) = 0 ∧ σ1 (57 + 7 * t + 3) = 0 then upd (upd (upd σ1 (57 + 7 * t + 4) (nI 2)) (27 + 6 * f + 3) (upd σ1 (57 + 7 * t + 4) (nI 2) (27 + 6 * f + 3) + 1)) (27 + 6 * f + 2) 0 else σ1 := by
        unfold a_works
        dsimp only
        rw [et, ew]
      refine q_istore B dX0_workOf_64 (Nat.le_of_ble_eq_true rfl) rfl ?_
      refine q_iload B dX0_workOf_66 rfl ?_
      refine q_if_ne (tgt := 95) B dX0_workOf_68 (by decide) (fun c_68 => ?_) (fun c_68 => ?_)
      · skip
        refine q_aload_n B dX0_workOf_95 rfl rfl ?_
        refine q_getI2 B kC_X5 (k := 1) (by decide) rfl kf_X0_125 (cT hc (i := t) (by omega)) (b0 1 (by decide)) dX0_workOf_96 ?_
        refine q_if_ne (tgt := 109) B dX0_workOf_99 (by decide) (fun c_99 => ?_) (fun c_99 => ?_)
        · skip
          refine q_iconst (v := 0) B dX0_workOf_109 rfl ?_
          exact q_iret BM rfl dX0_workOf_110 ⟨rfl, by first | (rw [hm, hwk, if_neg c_68, if_neg (fun q => c_99 q.1), eH, Int32.sub_self]; done) | (rw [hm, hwk, if_neg c_68, if_neg (fun q => c_106 q.2), eH, Int32.sub_self]; done), by first | (rw [hm, hwk, if_neg c_68, if_neg (fun q => c_99 q.1)]; exact ⟨hRJ, hRwJ, hWJ⟩) | (rw [hm, hwk, if_neg c_68, if_neg (fun q => c_106 q.2)]; exact ⟨hRJ, hRwJ, hWJ⟩), hFJ⟩
        · skip
          refine q_aload_n B dX0_workOf_102 rfl rfl ?_
          refine q_getI2 B kC_X5 (k := 3) (by decide) rfl kf_X0_141 (cT hc (i := t) (by omega)) (b0 3 (by decide)) dX0_workOf_103 ?_
          refine q_if_eq (tgt := 111) B dX0_workOf_106 (by decide) (fun c_106 => ?_) (fun c_106 => ?_)
          · skip
            have c_x : σ1 (57 + 7 * t + 1) = 0 ∧ σ1 (57 + 7 * t + 3) = 0 := ⟨c_99, c_106⟩
            refine q_aload_n B dX0_workOf_111 rfl rfl ?_
            refine q_iconst (v := nI 2) B dX0_workOf_112 rfl ?_
            refine q_rtV B (s_end (cT hc (i := t) (by omega))) kv_yX5_end ki_yX5_end ks_yX5_end km_X0_144 rfl (ci := 5) rfl rfl (cT hc (i := t) (by omega)) (by decide) rfl (Nat.le_of_ble_eq_true rfl) dX0_workOf_113 ?_
            refine q_aload_n B dX0_workOf_116 rfl rfl ?_
            refine q_bipush (v := -6) B dX0_workOf_117 rfl ?_
            refine q_putI2 B kC_X1 (k := 2) (by decide) rfl kf_X0_110 rfl rfl rfl (cF hc (i := f) (by omega)) dX0_workOf_119 ?_
            refine q_aload_n B dX0_workOf_122 rfl rfl ?_
            refine q_dup B dX0_workOf_123 rfl ?_
            refine q_getI2 B kC_X1 (k := 3) (by decide) rfl kf_X0_147 (cF hc (i := f) (by omega)) ((congrFun (q_setA_at _ _ _) 3).trans ((q_upd_ne (by decide)).trans ((congrFun (q_setA_ne (by omega)) 3).trans g3))) dX0_workOf_124 ?_
            refine q_iconst (v := 1) B dX0_workOf_127 rfl ?_
            refine q_iadd B dX0_workOf_128 ?_
            refine q_putI2 B kC_X1 (k := 3) (by decide) rfl kf_X0_147 rfl rfl rfl (cF hc (i := f) (by omega)) dX0_workOf_129 ?_
            refine q_iconst (v := 1) B dX0_workOf_132 rfl ?_
            exact q_iret BM rfl dX0_workOf_133 ⟨rfl, by
              have hwk2 : a_works σ f = upd (upd (upd σ1 (57 + 7 * t + 4) (nI 2)) (27 + 6 * f + 3) (upd σ1 (57 + 7 * t + 4) (nI 2) (27 + 6 * f + 3) + 1)) (27 + 6 * f + 2) 0 := by rw [hwk, if_neg c_68, if_pos (c_x)]
              rw [hm, a_how_one hR.2.2 hWs ht (fun i hi => by
                rw [hwk2, q_upd_ne (by omega), q_upd_ne (by omega), q_upd_ne (by omega)]
                exact (a_work1_at2 ew (by omega) (by omega) (by omega) (by omega) (by omega)).trans (q_upd_ne (by omega))), how1]
              have e3 : a_works σ f (57 + 7 * t + 4) = nI 2 := by rw [hwk2, q_upd_ne (by omega), q_upd_ne (by omega), q_upd_at]
              rw [e3, a_add_sub]
              rfl, by
              have hwk2 : a_works σ f = upd (upd (upd σ1 (57 + 7 * t + 4) (nI 2)) (27 + 6 * f + 3) (upd σ1 (57 + 7 * t + 4) (nI 2) (27 + 6 * f + 3) + 1)) (27 + 6 * f + 2) 0 := by rw [hwk, if_neg c_68, if_pos (c_x)]
              have hWs2 := hWs
              rw [hm]
              rw [hwk2] at hWs2 ⊢
              have e5 : upd σ1 (57 + 7 * t + 4) (nI 2) (27 + 6 * f + 3) = σ1 (27 + 6 * f + 3) := q_upd_ne (by omega)
              rw [e5] at hWs2 ⊢
              exact ⟨Rd_F2 (k := 3) (Rd_end hRJ (by omega)) (by omega) (Or.inl rfl), Rw_gone hRwJ hWJ hWs2 ((Kx.end.w (Kw.P (by omega))).w (Kw.P (by omega))) hf (by rw [hasJ f hf, hh]) ht (q_upd_at _ _ _) (fun g hg hne => by rw [q_upd_ne (by omega), q_upd_ne (by omega), q_upd_ne (by omega)]), hWs2⟩, ((hFJ.tr (Fr.set (by omega) (by omega))).tr (Fr.set (by omega) (by omega))).tr (Fr.set (by omega) (by omega))⟩
          · skip
            refine q_iconst (v := 0) B dX0_workOf_109 rfl ?_
            exact q_iret BM rfl dX0_workOf_110 ⟨rfl, by first | (rw [hm, hwk, if_neg c_68, if_neg (fun q => c_99 q.1), eH, Int32.sub_self]; done) | (rw [hm, hwk, if_neg c_68, if_neg (fun q => c_106 q.2), eH, Int32.sub_self]; done), by first | (rw [hm, hwk, if_neg c_68, if_neg (fun q => c_99 q.1)]; exact ⟨hRJ, hRwJ, hWJ⟩) | (rw [hm, hwk, if_neg c_68, if_neg (fun q => c_106 q.2)]; exact ⟨hRJ, hRwJ, hWJ⟩), hFJ⟩
      · skip
        refine q_aload_n B dX0_workOf_71 rfl rfl ?_
        refine q_aload_n B dX0_workOf_72 rfl rfl ?_
        refine q_rpV B (s_X0_strip hc hRJ hWJ ht) kv_yX0_strip ki_yX0_strip ks_yX0_strip km_X0_85 rfl (ci := 0) rfl rfl hc.1 (by decide) rfl (Nat.le_of_ble_eq_true rfl) dX0_workOf_73 (fun w J2 hx => ?_)
        obtain ⟨rfl, hx1, hx2, hx3⟩ := hx
        refine q_pop B dX0_workOf_76 rfl ?_
        refine q_aload_n B dX0_workOf_77 rfl rfl ?_
        refine q_bipush (v := -6) B dX0_workOf_78 rfl ?_
        refine q_putI2 B kC_X1 (k := 2) (by decide) rfl kf_X0_110 rfl rfl rfl (cF hc (i := f) (by omega)) dX0_workOf_80 ?_
        refine q_aload_n B dX0_workOf_83 rfl rfl ?_
        refine q_dup B dX0_workOf_84 rfl ?_
        refine q_getI2 B kC_X1 (k := 4) (by decide) rfl kf_X0_138 (cF hc (i := f) (by omega)) ((congrFun (q_setA_at _ _ _) 4).trans ((q_upd_ne (by decide)).trans ((hx1.2.2.2.1 f hf).2.2.2.2.1))) dX0_workOf_85 ?_
        refine q_iconst (v := 1) B dX0_workOf_88 rfl ?_
        refine q_iadd B dX0_workOf_89 ?_
        refine q_putI2 B kC_X1 (k := 4) (by decide) rfl kf_X0_138 rfl rfl rfl (cF hc (i := f) (by omega)) dX0_workOf_90 ?_
        refine q_iconst (v := 0) B dX0_workOf_93 rfl ?_
        exact q_iret BM rfl dX0_workOf_94 ⟨rfl, by
          rw [hm, a_how_one hR.2.2 hWs ht (fun i hi => by
            rw [hwk, if_pos c_68, a_givesUp]
            try dsimp only
            rw [q_upd_ne (by omega), q_upd_ne (by omega), a_strips_at (by omega) (by omega)]
            exact (a_work1_at2 ew (by omega) (by omega) (by omega) (by omega) (by omega)).trans (q_upd_ne (by omega))), how1]
          have e3 : a_works σ f (57 + 7 * t + 4) = nI 3 := by
            rw [hwk, if_pos c_68, a_givesUp]
            try dsimp only
            rw [q_upd_ne (by omega), q_upd_ne (by omega), a_strips]
            exact q_upd_at _ _ _
          rw [e3, a_add_sub]
          rfl, by
          have hWs2 := hWs
          rw [hm]
          rw [hwk, if_pos c_68] at hWs2 ⊢
          have e4 : ∀ g, g < F → g ≠ f → a_givesUp σ1 f t (27 + 6 * g + 2) = σ1 (27 + 6 * g + 2) := fun g hg hne => by
            rw [a_givesUp]
            try dsimp only
            rw [q_upd_ne (by omega), q_upd_ne (by omega), a_strips_at (by omega) (by omega)]
          exact ⟨Rd_F2 (k := 4) hx1 (by omega) (Or.inr rfl), Rw_gone hRwJ hWJ hWs2 ((hx2.w (Kw.P (by omega))).w (Kw.P (by omega))) hf (by rw [hasJ f hf, hh]) ht (by rw [a_givesUp]; exact q_upd_at _ _ _) e4, hWs2⟩, ((hFJ.tr hx3).tr (Fr.set (by omega) (by omega))).tr (Fr.set (by omega) (by omega))⟩
    refine q_aload_n B dX0_workOf_37 rfl rfl ?_
    refine q_getI2 B kC_X5 (k := 1) (by decide) rfl kf_X0_125 (cT hc (i := t) (by omega)) (((hR0.2.2.1 t ht).1 1 (by decide))) dX0_workOf_38 ?_
    refine q_if_eq (tgt := 52) B dX0_workOf_41 (by decide) (fun c_41 => ?_) (fun c_41 => ?_)
    · skip
      refine q_aload_n B dX0_workOf_52 rfl rfl ?_
      refine q_aload_n B dX0_workOf_53 rfl rfl ?_
      refine q_getI2 B kC_X0 (k := 0) (by decide) rfl kf_X0_9 hc.1 hR0.2.1.1 dX0_workOf_54 ?_
      refine q_aload_n B dX0_workOf_57 rfl rfl ?_
      refine q_getI2 B kC_X1 (k := 1) (by decide) rfl kf_X0_132 (cF hc (i := f) (by omega)) ((hR0.2.2.2.1 f hf).2.1) dX0_workOf_58 ?_
      refine q_rpV B (s_tt (f := f) hc hR0 ht c_41) kv_yX5_tryTest ki_yX5_tryTest ks_yX5_tryTest km_X0_135 rfl (ci := 5) rfl rfl (cT hc (i := t) (by omega)) (by decide) rfl (Nat.le_of_ble_eq_true rfl) dX0_workOf_61 (fun w J hx => ?_)
      obtain ⟨rfl, hx1, hx2, hx3⟩ := hx
      exact q_tk (j_64 _ _ _ ⟨rfl, hx1, hK0.tr hx2, hF0.tr hx3⟩) rfl (q_ac rfl (q_ac rfl (q_ac rfl (q_ac rfl q_an))))
    · skip
      refine q_aload_n B dX0_workOf_44 rfl rfl ?_
      refine q_aload_n B dX0_workOf_45 rfl rfl ?_
      refine q_rpV B (s_X0_exchangeLowest hc hR0 hW1 ht c_41) kv_yX0_exchangeLowest ki_yX0_exchangeLowest ks_yX0_exchangeLowest km_X0_128 rfl (ci := 0) rfl rfl hc.1 (by decide) rfl (Nat.le_of_ble_eq_true rfl) dX0_workOf_46 (fun w J hx => ?_)
      obtain ⟨rfl, hx1, hx2, hx3⟩ := hx
      rw [← a_work1_b (f := f) c_41] at hx1
      refine q_top (congrArg Prod.snd (a_work1_b (f := f) c_41)).symm ?_
      refine q_goto (tgt := 64) B dX0_workOf_49 (by decide) ?_
      exact q_tk (j_64 _ _ _ ⟨rfl, hx1, hK0.tr hx2, hF0.tr hx3⟩) rfl (q_ac rfl (q_ac rfl (q_ac rfl (q_ac rfl q_an))))
