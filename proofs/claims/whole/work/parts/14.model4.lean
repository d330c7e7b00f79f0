theorem a_b01 {P : Prop} {h : Decidable P} : ((@ite Int32 P h 1 0) = 0) ↔ ¬ P := by
  constructor
  · exact a_b0
  · intro q; exact if_neg q
set_option maxRecDepth 100000 in
set_option maxHeartbeats 4000000 in
theorem s_refusesThing {Sh : q_Sh} {I : q_Mem} {σ : a_A} {o : Nat} (hm : mOk Sh o) {k b p t : Int32} : q_Rt mX7_refusesThing 1 [.ref o, .int k, .int b, .int p, .int t] Sh (q_setA I (o + 1) σ) (some (.int (a_refT σ k b p t))) (q_setA I (o + 1) σ) := by
  refine q_rt_of (by decide) (Nat.le_of_ble_eq_true rfl) fun Γ BM => ?_
  have B := BM.1
  show q_W Γ mX7_refusesThing 0 0 Sh (q_setA I (o + 1) σ) 0 [(0, .ref o), (1, .int k), (2, .int b), (3, .int p), (4, .int t)] []
  refine q_iload_n B dX7_refusesThing_0 rfl rfl ?_
  refine q_iconst (v := nI 0) B dX7_refusesThing_1 rfl ?_
  refine q_iconst (v := nI 5) B dX7_refusesThing_2 rfl ?_
  refine q_rtS B s_in kv_yX7_in kt_yX7_in km_X7_94 rfl (by decide) rfl (Nat.le_of_ble_eq_true rfl) dX7_refusesThing_3 ?_
  refine q_if_ne (tgt := 11) B dX7_refusesThing_6 (by decide) (fun c_6 => ?_) (fun c_6 => ?_)
  · skip
    have h6 := a_b1 c_6
    obtain ⟨kk, hkk, ek⟩ := a_in06 rfl rfl (by decide) h6
    have hk2 : a_n k = kk := by rw [ek]; exact nI_clamp (by omega)
    refine q_iload_n B dX7_refusesThing_11 rfl rfl ?_
    refine q_iload_n B dX7_refusesThing_12 rfl rfl ?_
    refine q_top ek ?_
    refine q_rtS B (s_partsOf (k := kk) (by omega)) kv_yX7_partsOf kt_yX7_partsOf km_X7_43 rfl (by decide) rfl (Nat.le_of_ble_eq_true rfl) dX7_refusesThing_13 ?_
    refine q_iconst (v := -1) B dX7_refusesThing_16 rfl ?_
    refine q_ixor B dX7_refusesThing_17 ?_
    refine q_iand B dX7_refusesThing_18 ?_
    refine q_if_ne (tgt := 43) B dX7_refusesThing_19 (by decide) (fun c_19 => ?_) (fun c_19 => ?_)
    · skip
      refine q_bipush (v := -2) B dX7_refusesThing_43 rfl ?_
      exact q_iret BM rfl dX7_refusesThing_45 ⟨by rw [a_refT, if_neg (not_not_intro h6), hk2]; first | (rw [if_pos (Or.inl (Or.inl c_19))]; done) | (rw [if_pos (Or.inl (Or.inr h29))]; done) | (rw [if_pos (Or.inr h40)]; done), rfl, rfl⟩
    · skip
      refine q_iload_n B dX7_refusesThing_22 rfl rfl ?_
      refine q_iconst (v := nI 1) B dX7_refusesThing_23 rfl ?_
      refine q_bipush (v := nI 99) B dX7_refusesThing_24 rfl ?_
      refine q_rtS B s_in kv_yX7_in kt_yX7_in km_X7_94 rfl (by decide) rfl (Nat.le_of_ble_eq_true rfl) dX7_refusesThing_26 ?_
      refine q_if_eq (tgt := 43) B dX7_refusesThing_29 (by decide) (fun c_29 => ?_) (fun c_29 => ?_)
      · skip
        have h29 := a_b0 c_29
        refine q_bipush (v := -2) B dX7_refusesThing_43 rfl ?_
        exact q_iret BM rfl dX7_refusesThing_45 ⟨by rw [a_refT, if_neg (not_not_intro h6), hk2]; first | (rw [if_pos (Or.inl (Or.inl c_19))]; done) | (rw [if_pos (Or.inl (Or.inr h29))]; done) | (rw [if_pos (Or.inr h40)]; done), rfl, rfl⟩
      · skip
        have h29 := a_b1 c_29
        refine q_iload B dX7_refusesThing_32 rfl ?_
        refine q_iconst (v := nI 0) B dX7_refusesThing_34 rfl ?_
        refine q_bipush (v := nI 7) B dX7_refusesThing_35 rfl ?_
        refine q_rtS B s_in kv_yX7_in kt_yX7_in km_X7_94 rfl (by decide) rfl (Nat.le_of_ble_eq_true rfl) dX7_refusesThing_37 ?_
        refine q_if_ne (tgt := 46) B dX7_refusesThing_40 (by decide) (fun c_40 => ?_) (fun c_40 => ?_)
        · skip
          have h40 := a_b1 c_40
          refine q_aload_n B dX7_refusesThing_46 rfl rfl ?_
          refine q_getR B kC_X7 (k := 1) (by decide) rfl kf_X7_7 hm.1 (mR_s hm) dX7_refusesThing_47 ?_
          refine q_iconst (v := nI 1) B dX7_refusesThing_50 rfl ?_
          refine q_ialdS (n := 1) B (mA_s hm) rfl (by omega) (by decide) dX7_refusesThing_51 ?_
          refine q_bipush (v := nI 30) B dX7_refusesThing_52 rfl ?_
          refine q_icmp_ne (tgt := 62) B dX7_refusesThing_54 (by decide) (fun c_54 => ?_) (fun c_54 => ?_)
          · skip
            refine q_iconst (v := 0) B dX7_refusesThing_62 rfl ?_
            exact q_iret BM rfl dX7_refusesThing_63 ⟨by rw [a_refT, if_neg (not_not_intro h6), hk2, if_neg (fun h => h.elim (fun h => h.elim (fun h => h c_19) (fun h => h h29)) (fun h => h h40))]; first | (rw [if_pos c_54]; done) | (rw [if_neg c_54]; done), rfl, rfl⟩
          · skip
            refine q_bipush (v := -4) B dX7_refusesThing_57 rfl ?_
            refine q_goto (tgt := 63) B dX7_refusesThing_59 (by decide) ?_
            exact q_iret BM rfl dX7_refusesThing_63 ⟨by rw [a_refT, if_neg (not_not_intro h6), hk2, if_neg (fun h => h.elim (fun h => h.elim (fun h => h c_19) (fun h => h h29)) (fun h => h h40))]; first | (rw [if_pos c_54]; done) | (rw [if_neg c_54]; done), rfl, rfl⟩
        · skip
          have h40 := a_b0 c_40
          refine q_bipush (v := -2) B dX7_refusesThing_43 rfl ?_
          exact q_iret BM rfl dX7_refusesThing_45 ⟨by rw [a_refT, if_neg (not_not_intro h6), hk2]; first | (rw [if_pos (Or.inl (Or.inl c_19))]; done) | (rw [if_pos (Or.inl (Or.inr h29))]; done) | (rw [if_pos (Or.inr h40)]; done), rfl, rfl⟩
  · skip
    have h6 := a_b0 c_6
    refine q_iconst (v := -1) B dX7_refusesThing_9 rfl ?_
    exact q_iret BM rfl dX7_refusesThing_10 ⟨by rw [a_refT, if_pos h6], rfl, rfl⟩
set_option maxRecDepth 100000 in
set_option maxHeartbeats 4000000 in
theorem s_refusesFixer {Sh : q_Sh} {I : q_Mem} {σ : a_A} {o : Nat} (hm : mOk Sh o) {k c : Int32} : q_Rt mX7_refusesFixer 1 [.ref o, .int k, .int c] Sh (q_setA I (o + 1) σ) (some (.int (a_refF σ k c))) (q_setA I (o + 1) σ) := by
  refine q_rt_of (by decide) (Nat.le_of_ble_eq_true rfl) fun Γ BM => ?_
  have B := BM.1
  show q_W Γ mX7_refusesFixer 0 0 Sh (q_setA I (o + 1) σ) 0 [(0, .ref o), (1, .int k), (2, .int c)] []
  refine q_iload_n B dX7_refusesFixer_0 rfl rfl ?_
  refine q_iconst (v := nI 1) B dX7_refusesFixer_1 rfl ?_
  refine q_bipush (v := nI 63) B dX7_refusesFixer_2 rfl ?_
  refine q_rtS B s_in kv_yX7_in kt_yX7_in km_X7_94 rfl (by decide) rfl (Nat.le_of_ble_eq_true rfl) dX7_refusesFixer_4 ?_
  refine q_if_eq (tgt := 20) B dX7_refusesFixer_7 (by decide) (fun c_7 => ?_) (fun c_7 => ?_)
  · skip
    have h7 := a_b0 c_7
    refine q_bipush (v := -2) B dX7_refusesFixer_20 rfl ?_
    exact q_iret BM rfl dX7_refusesFixer_22 ⟨by rw [a_refF]; first | (rw [if_pos (Or.inl h7)]; done) | (rw [if_pos (Or.inr h17)]; done), rfl, rfl⟩
  · skip
    have h7 := a_b1 c_7
    refine q_iload_n B dX7_refusesFixer_10 rfl rfl ?_
    refine q_iconst (v := nI 0) B dX7_refusesFixer_11 rfl ?_
    refine q_bipush (v := nI 9) B dX7_refusesFixer_12 rfl ?_
    refine q_rtS B s_in kv_yX7_in kt_yX7_in km_X7_94 rfl (by decide) rfl (Nat.le_of_ble_eq_true rfl) dX7_refusesFixer_14 ?_
    refine q_if_ne (tgt := 23) B dX7_refusesFixer_17 (by decide) (fun c_17 => ?_) (fun c_17 => ?_)
    · skip
      have h17 := a_b1 c_17
      refine q_aload_n B dX7_refusesFixer_23 rfl rfl ?_
      refine q_getR B kC_X7 (k := 1) (by decide) rfl kf_X7_7 hm.1 (mR_s hm) dX7_refusesFixer_24 ?_
      refine q_iconst (v := nI 2) B dX7_refusesFixer_27 rfl ?_
      refine q_ialdS (n := 2) B (mA_s hm) rfl (by omega) (by decide) dX7_refusesFixer_28 ?_
      refine q_iconst (v := nI 5) B dX7_refusesFixer_29 rfl ?_
      refine q_icmp_ne (tgt := 38) B dX7_refusesFixer_30 (by decide) (fun c_30 => ?_) (fun c_30 => ?_)
      · skip
        refine q_iconst (v := 0) B dX7_refusesFixer_38 rfl ?_
        exact q_iret BM rfl dX7_refusesFixer_39 ⟨by rw [a_refF, if_neg (fun h => h.elim (fun h => h h7) (fun h => h h17))]; first | (rw [if_pos c_30]; done) | (rw [if_neg c_30]; done), rfl, rfl⟩
      · skip
        refine q_bipush (v := -4) B dX7_refusesFixer_33 rfl ?_
        refine q_goto (tgt := 39) B dX7_refusesFixer_35 (by decide) ?_
        exact q_iret BM rfl dX7_refusesFixer_39 ⟨by rw [a_refF, if_neg (fun h => h.elim (fun h => h h7) (fun h => h h17))]; first | (rw [if_pos c_30]; done) | (rw [if_neg c_30]; done), rfl, rfl⟩
    · skip
      have h17 := a_b0 c_17
      refine q_bipush (v := -2) B dX7_refusesFixer_20 rfl ?_
      exact q_iret BM rfl dX7_refusesFixer_22 ⟨by rw [a_refF]; first | (rw [if_pos (Or.inl h7)]; done) | (rw [if_pos (Or.inr h17)]; done), rfl, rfl⟩
set_option maxRecDepth 100000 in
set_option maxHeartbeats 4000000 in
theorem s_refusesDrawer {Sh : q_Sh} {I : q_Mem} {p m : Int32} : q_Rt mX7_refusesDrawer 1 [.int p, .int m] Sh (I) (some (.int (a_refD p m))) (I) := by
  refine q_rt_of (by decide) (Nat.le_of_ble_eq_true rfl) fun Γ BM => ?_
  have B := BM.1
  show q_W Γ mX7_refusesDrawer 0 0 Sh (I) 0 [(0, .int p), (1, .int m)] []
  refine q_iload_n B dX7_refusesDrawer_0 rfl rfl ?_
  refine q_iconst (v := nI 0) B dX7_refusesDrawer_1 rfl ?_
  refine q_bipush (v := nI 7) B dX7_refusesDrawer_2 rfl ?_
  refine q_rtS B s_in kv_yX7_in kt_yX7_in km_X7_94 rfl (by decide) rfl (Nat.le_of_ble_eq_true rfl) dX7_refusesDrawer_4 ?_
  refine q_if_ne (tgt := 14) B dX7_refusesDrawer_7 (by decide) (fun c_7 => ?_) (fun c_7 => ?_)
  · skip
    have h7 := a_b1 c_7
    refine q_iload_n B dX7_refusesDrawer_14 rfl rfl ?_
    refine q_iconst (v := nI 0) B dX7_refusesDrawer_15 rfl ?_
    refine q_bipush (v := nI 99) B dX7_refusesDrawer_16 rfl ?_
    refine q_rtS B s_in kv_yX7_in kt_yX7_in km_X7_94 rfl (by decide) rfl (Nat.le_of_ble_eq_true rfl) dX7_refusesDrawer_18 ?_
    refine q_if_eq (tgt := 28) B dX7_refusesDrawer_21 (by decide) (fun c_21 => ?_) (fun c_21 => ?_)
    · skip
      have h21 := a_b0 c_21
      refine q_bipush (v := -2) B dX7_refusesDrawer_28 rfl ?_
      exact q_iret BM rfl dX7_refusesDrawer_30 ⟨by rw [a_refD]; first | (rw [if_pos h7]; done) | (rw [if_neg (not_not_intro h7), if_pos h21]; done) | (rw [if_neg (not_not_intro h7), if_neg h21]; done), rfl, rfl⟩
    · skip
      have h21 := a_b1 c_21
      refine q_iconst (v := 0) B dX7_refusesDrawer_24 rfl ?_
      refine q_goto (tgt := 30) B dX7_refusesDrawer_25 (by decide) ?_
      exact q_iret BM rfl dX7_refusesDrawer_30 ⟨by rw [a_refD]; first | (rw [if_pos h7]; done) | (rw [if_neg (not_not_intro h7), if_pos h21]; done) | (rw [if_neg (not_not_intro h7), if_neg h21]; done), rfl, rfl⟩
  · skip
    have h7 := a_b0 c_7
    refine q_iconst (v := -1) B dX7_refusesDrawer_10 rfl ?_
    refine q_goto (tgt := 30) B dX7_refusesDrawer_11 (by decide) ?_
    exact q_iret BM rfl dX7_refusesDrawer_30 ⟨by rw [a_refD]; first | (rw [if_pos h7]; done) | (rw [if_neg (not_not_intro h7), if_pos h21]; done) | (rw [if_neg (not_not_intro h7), if_neg h21]; done), rfl, rfl⟩
set_option maxRecDepth 100000 in
set_option maxHeartbeats 4000000 in
theorem s_refusesPass {Sh : q_Sh} {I : q_Mem} {σ : a_A} {o : Nat} (hm : mOk Sh o) {m : Int32} : q_Rt mX7_refusesPass 1 [.ref o, .int m] Sh (q_setA I (o + 1) σ) (some (.int (a_refP σ m))) (q_setA I (o + 1) σ) := by
  refine q_rt_of (by decide) (Nat.le_of_ble_eq_true rfl) fun Γ BM => ?_
  have B := BM.1
  show q_W Γ mX7_refusesPass 0 0 Sh (q_setA I (o + 1) σ) 0 [(0, .ref o), (1, .int m)] []
  refine q_iload_n B dX7_refusesPass_0 rfl rfl ?_
  refine q_iconst (v := nI 1) B dX7_refusesPass_1 rfl ?_
  refine q_bipush (v := nI 99) B dX7_refusesPass_2 rfl ?_
  refine q_rtS B s_in kv_yX7_in kt_yX7_in km_X7_94 rfl (by decide) rfl (Nat.le_of_ble_eq_true rfl) dX7_refusesPass_4 ?_
  refine q_if_ne (tgt := 13) B dX7_refusesPass_7 (by decide) (fun c_7 => ?_) (fun c_7 => ?_)
  · skip
    have h7 := a_b1 c_7
    refine q_aload_n B dX7_refusesPass_13 rfl rfl ?_
    refine q_getR B kC_X7 (k := 1) (by decide) rfl kf_X7_7 hm.1 (mR_s hm) dX7_refusesPass_14 ?_
    refine q_iconst (v := nI 0) B dX7_refusesPass_17 rfl ?_
    refine q_ialdS (n := 0) B (mA_s hm) rfl (by omega) (by decide) dX7_refusesPass_18 ?_
    refine q_iload_n B dX7_refusesPass_19 rfl rfl ?_
    refine q_iadd B dX7_refusesPass_20 ?_
    refine q_sipush (v := nI 9999) B dX7_refusesPass_21 rfl ?_
    refine q_icmp_le (tgt := 32) B dX7_refusesPass_24 (by decide) (fun c_24 => ?_) (fun c_24 => ?_)
    · skip
      refine q_iconst (v := 0) B dX7_refusesPass_32 rfl ?_
      exact q_iret BM rfl dX7_refusesPass_33 ⟨by rw [a_refP, if_neg (not_not_intro h7)]; first | (rw [if_pos (Int32.not_le.mp c_24)]; done) | (rw [if_neg (Int32.not_lt.mpr c_24)]; done), rfl, rfl⟩
    · skip
      refine q_bipush (v := -5) B dX7_refusesPass_27 rfl ?_
      refine q_goto (tgt := 33) B dX7_refusesPass_29 (by decide) ?_
      exact q_iret BM rfl dX7_refusesPass_33 ⟨by rw [a_refP, if_neg (not_not_intro h7)]; first | (rw [if_pos (Int32.not_le.mp c_24)]; done) | (rw [if_neg (Int32.not_lt.mpr c_24)]; done), rfl, rfl⟩
  · skip
    have h7 := a_b0 c_7
    refine q_bipush (v := -2) B dX7_refusesPass_10 rfl ?_
    exact q_iret BM rfl dX7_refusesPass_12 ⟨by rw [a_refP, if_pos h7], rfl, rfl⟩
set_option maxRecDepth 100000 in
set_option maxHeartbeats 4000000 in
theorem s_isThing {Sh : q_Sh} {I : q_Mem} {σ : a_A} {o : Nat} (hm : mOk Sh o) {T F : Nat} (hW : a_W T F σ) {t : Int32} : q_Rt mX7_isThing 1 [.ref o, .int t] Sh (q_setA I (o + 1) σ) (some (.int (if nI 0 ≤ t ∧ t ≤ σ 1 - nI 1 then 1 else 0))) (q_setA I (o + 1) σ) := by
  refine q_rt_of (by decide) (Nat.le_of_ble_eq_true rfl) fun Γ BM => ?_
  have B := BM.1
  show q_W Γ mX7_isThing 0 0 Sh (q_setA I (o + 1) σ) 0 [(0, .ref o), (1, .int t)] []
  refine q_iload_n B dX7_isThing_0 rfl rfl ?_
  refine q_iconst (v := nI 0) B dX7_isThing_1 rfl ?_
  refine q_aload_n B dX7_isThing_2 rfl rfl ?_
  refine q_getR B kC_X7 (k := 1) (by decide) rfl kf_X7_7 hm.1 (mR_s hm) dX7_isThing_3 ?_
  refine q_iconst (v := nI 1) B dX7_isThing_6 rfl ?_
  refine q_ialdS (n := 1) B (mA_s hm) rfl (by omega) (by decide) dX7_isThing_7 ?_
  refine q_iconst (v := nI 1) B dX7_isThing_8 rfl ?_
  refine q_isub B dX7_isThing_9 ?_
  refine q_rtS B s_in kv_yX7_in kt_yX7_in km_X7_94 rfl (by decide) rfl (Nat.le_of_ble_eq_true rfl) dX7_isThing_10 ?_
  exact q_zret BM rfl (by split <;> simp) dX7_isThing_13 ⟨rfl, rfl, rfl⟩
set_option maxRecDepth 100000 in
set_option maxHeartbeats 4000000 in
theorem s_comes {Sh : q_Sh} {I : q_Mem} {σ : a_A} {o : Nat} (hm : mOk Sh o) {T F : Nat} (hW : a_W T F σ) (hlt : T < 30) {k b p t : Int32} : q_Rt mX7_comes 1 [.ref o, .int k, .int b, .int p, .int t] Sh (q_setA I (o + 1) σ) (some (.int (nI T))) (q_setA I (o + 1) (a_comes σ k b p t)) := by
  refine q_rt_of (by decide) (Nat.le_of_ble_eq_true rfl) fun Γ BM => ?_
  have B := BM.1
  have hT := hW.1.1
  have hT2 := hW.1.2
  have hF := hW.2.1.1
  have hF2 := hW.2.1.2
  have haT := a_W_T hW
  show q_W Γ mX7_comes 0 0 Sh (q_setA I (o + 1) σ) 0 [(0, .ref o), (1, .int k), (2, .int b), (3, .int p), (4, .int t)] []
  refine q_aload_n B dX7_comes_0 rfl rfl ?_
  refine q_getR B kC_X7 (k := 1) (by decide) rfl kf_X7_7 hm.1 (mR_s hm) dX7_comes_1 ?_
  refine q_iconst (v := nI 1) B dX7_comes_4 rfl ?_
  refine q_ialdS2 (n := 1) B (mA_s hm) rfl (by omega) (by decide) hT dX7_comes_5 ?_
  refine q_istore B dX7_comes_6 (Nat.le_of_ble_eq_true rfl) rfl ?_
  refine q_aload_n B dX7_comes_8 rfl rfl ?_
  refine q_getR B kC_X7 (k := 1) (by decide) rfl kf_X7_7 hm.1 (mR_s hm) dX7_comes_9 ?_
  refine q_iconst (v := nI 1) B dX7_comes_12 rfl ?_
  refine q_dup2 B dX7_comes_13 rfl rfl ?_
  refine q_ialdS2 (n := 1) B (mA_s hm) rfl (by omega) (by decide) hT dX7_comes_14 ?_
  refine q_iconst (v := 1) B dX7_comes_15 rfl ?_
  refine q_iadd B dX7_comes_16 ?_
  refine q_iastS (n := 1) B (mA_s hm) rfl (by omega) (by decide) dX7_comes_17 ?_
  refine q_aload_n B dX7_comes_18 rfl rfl ?_
  refine q_iload B dX7_comes_19 rfl ?_
  refine q_iconst (v := nI 0) B dX7_comes_21 rfl ?_
  refine q_iload_n B dX7_comes_22 rfl rfl ?_
  refine q_rtV B (s_lay_0 hm (by omega)) kv_yX7_lay ki_yX7_lay ks_yX7_lay km_X7_47 rfl (ci := 7) rfl rfl hm.1 (by decide) rfl (Nat.le_of_ble_eq_true rfl) dX7_comes_23 ?_
  refine q_aload_n B dX7_comes_26 rfl rfl ?_
  refine q_iload B dX7_comes_27 rfl ?_
  refine q_iconst (v := nI 1) B dX7_comes_29 rfl ?_
  refine q_iload_n B dX7_comes_30 rfl rfl ?_
  refine q_rtV B (s_lay hm (by omega) (by decide)) kv_yX7_lay ki_yX7_lay ks_yX7_lay km_X7_47 rfl (ci := 7) rfl rfl hm.1 (by decide) rfl (Nat.le_of_ble_eq_true rfl) dX7_comes_31 ?_
  refine q_aload_n B dX7_comes_34 rfl rfl ?_
  refine q_iload B dX7_comes_35 rfl ?_
  refine q_iconst (v := nI 2) B dX7_comes_37 rfl ?_
  refine q_iload_n B dX7_comes_38 rfl rfl ?_
  refine q_rtV B (s_lay hm (by omega) (by decide)) kv_yX7_lay ki_yX7_lay ks_yX7_lay km_X7_47 rfl (ci := 7) rfl rfl hm.1 (by decide) rfl (Nat.le_of_ble_eq_true rfl) dX7_comes_39 ?_
  refine q_aload_n B dX7_comes_42 rfl rfl ?_
  refine q_iload B dX7_comes_43 rfl ?_
  refine q_iconst (v := nI 3) B dX7_comes_45 rfl ?_
  refine q_iload B dX7_comes_46 rfl ?_
  refine q_rtV B (s_lay hm (by omega) (by decide)) kv_yX7_lay ki_yX7_lay ks_yX7_lay km_X7_47 rfl (ci := 7) rfl rfl hm.1 (by decide) rfl (Nat.le_of_ble_eq_true rfl) dX7_comes_48 ?_
  refine q_aload_n B dX7_comes_51 rfl rfl ?_
  refine q_iload B dX7_comes_52 rfl ?_
  refine q_iconst (v := nI 4) B dX7_comes_54 rfl ?_
  refine q_iconst (v := 0) B dX7_comes_55 rfl ?_
  refine q_rtV B (s_lay hm (by omega) (by decide)) kv_yX7_lay ki_yX7_lay ks_yX7_lay km_X7_47 rfl (ci := 7) rfl rfl hm.1 (by decide) rfl (Nat.le_of_ble_eq_true rfl) dX7_comes_56 ?_
  refine q_aload_n B dX7_comes_59 rfl rfl ?_
  refine q_iload B dX7_comes_60 rfl ?_
  refine q_iconst (v := nI 5) B dX7_comes_62 rfl ?_
  refine q_iconst (v := 0) B dX7_comes_63 rfl ?_
  refine q_rtV B (s_lay hm (by omega) (by decide)) kv_yX7_lay ki_yX7_lay ks_yX7_lay km_X7_47 rfl (ci := 7) rfl rfl hm.1 (by decide) rfl (Nat.le_of_ble_eq_true rfl) dX7_comes_64 ?_
  refine q_aload_n B dX7_comes_67 rfl rfl ?_
  refine q_iload B dX7_comes_68 rfl ?_
  refine q_bipush (v := nI 6) B dX7_comes_70 rfl ?_
  refine q_iconst (v := 0) B dX7_comes_72 rfl ?_
  refine q_rtV B (s_lay hm (by omega) (by decide)) kv_yX7_lay ki_yX7_lay ks_yX7_lay km_X7_47 rfl (ci := 7) rfl rfl hm.1 (by decide) rfl (Nat.le_of_ble_eq_true rfl) dX7_comes_73 ?_
  refine q_iload B dX7_comes_76 rfl ?_
  exact q_iret BM rfl dX7_comes_78 ⟨rfl, rfl, by unfold a_comes; dsimp only; rw [haT, hT]⟩
set_option maxRecDepth 100000 in
set_option maxHeartbeats 4000000 in
theorem s_comesFixer {Sh : q_Sh} {I : q_Mem} {σ : a_A} {o : Nat} (hm : mOk Sh o) {T F : Nat} (hW : a_W T F σ) (hlt : F < 5) {k c : Int32} : q_Rt mX7_comesFixer 0 [.ref o, .int k, .int c] Sh (q_setA I (o + 1) σ) (some (.int (nI F))) (q_setA I (o + 1) (a_comesF σ k c)) := by
  refine q_rt_of (by decide) (Nat.le_of_ble_eq_true rfl) fun Γ BM => ?_
  have B := BM.1
  have hT := hW.1.1
  have hT2 := hW.1.2
  have hF := hW.2.1.1
  have hF2 := hW.2.1.2
  have haF := a_W_F hW
  show q_W Γ mX7_comesFixer 0 0 Sh (q_setA I (o + 1) σ) 0 [(0, .ref o), (1, .int k), (2, .int c)] []
  refine q_bipush (v := nI 27) B dX7_comesFixer_0 rfl ?_
  refine q_bipush (v := nI 6) B dX7_comesFixer_2 rfl ?_
  refine q_aload_n B dX7_comesFixer_4 rfl rfl ?_
  refine q_getR B kC_X7 (k := 1) (by decide) rfl kf_X7_7 hm.1 (mR_s hm) dX7_comesFixer_5 ?_
  refine q_iconst (v := nI 2) B dX7_comesFixer_8 rfl ?_
  refine q_ialdS2 (n := 2) B (mA_s hm) rfl (by omega) (by decide) hF dX7_comesFixer_9 ?_
  refine q_imul B dX7_comesFixer_10 ?_
  refine q_iadd B dX7_comesFixer_11 ?_
  refine q_top (y := nI (27 + 6 * F)) (by simp only [nI_add, q_nI_mul]) ?_
  refine q_istore_n B dX7_comesFixer_12 rfl (Nat.le_of_ble_eq_true rfl) rfl ?_
  refine q_iconst (v := nI 0) B dX7_comesFixer_13 rfl ?_
  refine q_istore B dX7_comesFixer_14 (Nat.le_of_ble_eq_true rfl) rfl ?_
  have hl_16 : ∀ (n i : Nat) (σ1 : a_A), i + n = 6 → q_fold (fun j (s : a_A) => upd s (27 + 6 * F + j) 0) i σ = σ1 → q_W Γ mX7_comesFixer 0 0 Sh (q_setA I (o + 1) σ1) 16 [(0, .ref o), (1, .int k), (2, .int c), (3, .int (nI (27 + 6 * F))), (4, .int (nI i))] [] := by
    intro n
    induction n with
    | zero =>
      intro i σ1 hin hinv
      have hi : i = 6 := by omega
      subst hi
      have e2 : σ1 2 = nI F := by rw [← hinv]; simp (disch := omega) only [q_fold, q_upd_ne]; exact hF
      have e3 : upd (upd σ1 (27 + 6 * F) k) (27 + 6 * F + 1) c 2 = nI F := by simp (disch := omega) only [q_upd_ne]; exact e2
      refine q_iload B dX7_comesFixer_16 rfl ?_
      refine q_bipush (v := nI 6) B dX7_comesFixer_18 rfl ?_
      refine q_icmp_ge (tgt := 39) B dX7_comesFixer_20 (by decide) (fun _ => ?_) (fun h => absurd (q_le (Nat.le_refl 6) (by decide)) h)
      refine q_aload_n B dX7_comesFixer_39 rfl rfl ?_
      refine q_getR B kC_X7 (k := 1) (by decide) rfl kf_X7_7 hm.1 (mR_s hm) dX7_comesFixer_40 ?_
      refine q_iload_n B dX7_comesFixer_43 rfl rfl ?_
      refine q_iconst (v := nI 0) B dX7_comesFixer_44 rfl ?_
      refine q_iadd B dX7_comesFixer_45 ?_
      refine q_iload_n B dX7_comesFixer_46 rfl rfl ?_
      refine q_iastS (n := 27 + 6 * F) B (mA_s hm) (by simp only [nI_add, Nat.add_zero]) (by omega) (by decide) dX7_comesFixer_47 ?_
      refine q_aload_n B dX7_comesFixer_48 rfl rfl ?_
      refine q_getR B kC_X7 (k := 1) (by decide) rfl kf_X7_7 hm.1 (mR_s hm) dX7_comesFixer_49 ?_
      refine q_iload_n B dX7_comesFixer_52 rfl rfl ?_
      refine q_iconst (v := nI 1) B dX7_comesFixer_53 rfl ?_
      refine q_iadd B dX7_comesFixer_54 ?_
      refine q_iload_n B dX7_comesFixer_55 rfl rfl ?_
      refine q_iastS (n := 27 + 6 * F + 1) B (mA_s hm) (by simp only [nI_add, q_nI_mul]) (by omega) (by decide) dX7_comesFixer_56 ?_
      refine q_aload_n B dX7_comesFixer_57 rfl rfl ?_
      refine q_getR B kC_X7 (k := 1) (by decide) rfl kf_X7_7 hm.1 (mR_s hm) dX7_comesFixer_58 ?_
      refine q_iconst (v := nI 2) B dX7_comesFixer_61 rfl ?_
      refine q_dup2 B dX7_comesFixer_62 rfl rfl ?_
      refine q_ialdS2 (n := 2) B (mA_s hm) rfl (by omega) (by decide) e3 dX7_comesFixer_63 ?_
      refine q_iconst (v := 1) B dX7_comesFixer_64 rfl ?_
      refine q_iadd B dX7_comesFixer_65 ?_
      refine q_iastS (n := 2) B (mA_s hm) rfl (by omega) (by decide) dX7_comesFixer_66 ?_
      refine q_aload_n B dX7_comesFixer_67 rfl rfl ?_
      refine q_getR B kC_X7 (k := 1) (by decide) rfl kf_X7_7 hm.1 (mR_s hm) dX7_comesFixer_68 ?_
      refine q_iconst (v := nI 2) B dX7_comesFixer_71 rfl ?_
      refine q_ialdS2 (n := 2) B (mA_s hm) rfl (by omega) (by decide) (q_upd_at _ _ _) dX7_comesFixer_72 ?_
      refine q_iconst (v := 1) B dX7_comesFixer_73 rfl ?_
      refine q_isub B dX7_comesFixer_74 ?_
      exact q_iret BM rfl dX7_comesFixer_75 ⟨by rw [Int32.add_sub_cancel], rfl, by unfold a_comesF; dsimp only; rw [haF, hinv, e3]⟩
    | succ n ih =>
      intro i σ1 hin hinv
      have hiN : i < 6 := by omega
      refine q_iload B dX7_comesFixer_16 rfl ?_
      refine q_bipush (v := nI 6) B dX7_comesFixer_18 rfl ?_
      refine q_icmp_ge (tgt := 39) B dX7_comesFixer_20 (by decide) (fun h => absurd h (q_nle hiN (by decide))) (fun _ => ?_)
      refine q_aload_n B dX7_comesFixer_23 rfl rfl ?_
      refine q_getR B kC_X7 (k := 1) (by decide) rfl kf_X7_7 hm.1 (mR_s hm) dX7_comesFixer_24 ?_
      refine q_iload_n B dX7_comesFixer_27 rfl rfl ?_
      refine q_iload B dX7_comesFixer_28 rfl ?_
      refine q_iadd B dX7_comesFixer_30 ?_
      refine q_iconst (v := 0) B dX7_comesFixer_31 rfl ?_
      refine q_iastS (n := 27 + 6 * F + i) B (mA_s hm) (by simp only [nI_add, q_nI_mul]) (by omega) (by decide) dX7_comesFixer_32 ?_
      refine q_iinc2 (y := nI (i + 1)) B dX7_comesFixer_33 rfl (q_inc1 _) (Nat.le_of_ble_eq_true rfl) rfl ?_
      refine q_goto (tgt := 16) B dX7_comesFixer_36 (by decide) ?_
      exact q_tk (ih (i + 1) _ (by omega) (by rw [← hinv]; rfl)) rfl (q_ac rfl (q_ac rfl (q_ac rfl (q_ac rfl (q_ac rfl q_an)))))
  exact q_tk (hl_16 6 0 σ (by omega) rfl) rfl (q_ac rfl (q_ac rfl (q_ac rfl (q_ac rfl (q_ac rfl q_an)))))
set_option maxRecDepth 100000 in
set_option maxHeartbeats 4000000 in
theorem s_placeOf {Sh : q_Sh} {I : q_Mem} {σ : a_A} {o : Nat} (hm : mOk Sh o) {T F : Nat} (hW : a_W T F σ) {t : Nat} (ht : t < 30) : q_Rt mX7_placeOf 1 [.ref o, .int (nI t)] Sh (q_setA I (o + 1) σ) (some (.int (a_place σ t))) (q_setA I (o + 1) σ) := by
  refine q_rt_of (by decide) (Nat.le_of_ble_eq_true rfl) fun Γ BM => ?_
  have B := BM.1
  have hT := hW.1.1
  have hT2 := hW.1.2
  have hF := hW.2.1.1
  have hF2 := hW.2.1.2
  have haT := a_W_T hW
  show q_W Γ mX7_placeOf 0 0 Sh (q_setA I (o + 1) σ) 0 [(0, .ref o), (1, .int (nI t))] []
  refine q_aload_n B dX7_placeOf_0 rfl rfl ?_
  refine q_iload_n B dX7_placeOf_1 rfl rfl ?_
  refine q_iconst (v := nI 4) B dX7_placeOf_2 rfl ?_
  refine q_rtV B (s_of hm ht (by decide)) kv_yX7_of ki_yX7_of ks_yX7_of km_X7_39 rfl (ci := 7) rfl rfl hm.1 (by decide) rfl (Nat.le_of_ble_eq_true rfl) dX7_placeOf_3 ?_
  refine q_if_eq (tgt := 12) B dX7_placeOf_6 (by decide) (fun c_6 => ?_) (fun c_6 => ?_)
  · skip
    refine q_iconst (v := 0) B dX7_placeOf_12 rfl ?_
    refine q_istore_n B dX7_placeOf_13 rfl (Nat.le_of_ble_eq_true rfl) rfl ?_
    refine q_iconst (v := nI 0) B dX7_placeOf_14 rfl ?_
    refine q_istore_n B dX7_placeOf_15 rfl (Nat.le_of_ble_eq_true rfl) rfl ?_
    have hl_16 : ∀ (n i : Nat) (c : Int32), i + n = T → q_fold (fun i (n : Int32) => n + (if σ (57 + 7 * i + 4) = 0 ∧ (0 < σ (57 + 7 * t + 2) - σ (57 + 7 * i + 2) ∨ (σ (57 + 7 * t + 2) - σ (57 + 7 * i + 2) = 0 ∧ i < t)) then 1 else 0)) i 0 = c → q_W Γ mX7_placeOf 0 0 Sh (q_setA I (o + 1) σ) 16 [(0, .ref o), (1, .int (nI t)), (2, .int c), (3, .int (nI i))] [] := by
      intro n
      induction n with
      | zero =>
        intro i c hin hinv
        have hi : i = T := by omega
        subst hi
        refine q_iload_n B dX7_placeOf_16 rfl rfl ?_
        refine q_aload_n B dX7_placeOf_17 rfl rfl ?_
        refine q_getR B kC_X7 (k := 1) (by decide) rfl kf_X7_7 hm.1 (mR_s hm) dX7_placeOf_18 ?_
        refine q_iconst (v := nI 1) B dX7_placeOf_21 rfl ?_
        refine q_ialdS2 (n := 1) B (mA_s hm) rfl (by omega) (by decide) hT dX7_placeOf_22 ?_
        refine q_icmp_ge (tgt := 79) B dX7_placeOf_23 (by decide) (fun _ => ?_) (fun h => absurd (q_le (Nat.le_refl _) (by omega)) h)
        refine q_iload_n B dX7_placeOf_79 rfl rfl ?_
        exact q_iret BM rfl dX7_placeOf_80 ⟨by rw [a_place, if_pos c_6, haT, hinv], rfl, rfl⟩
      | succ n ih =>
        intro i c hin hinv
        have hiN : i < T := by omega
        refine q_iload_n B dX7_placeOf_16 rfl rfl ?_
        refine q_aload_n B dX7_placeOf_17 rfl rfl ?_
        refine q_getR B kC_X7 (k := 1) (by decide) rfl kf_X7_7 hm.1 (mR_s hm) dX7_placeOf_18 ?_
        refine q_iconst (v := nI 1) B dX7_placeOf_21 rfl ?_
        refine q_ialdS2 (n := 1) B (mA_s hm) rfl (by omega) (by decide) hT dX7_placeOf_22 ?_
        refine q_icmp_ge (tgt := 79) B dX7_placeOf_23 (by decide) (fun h => absurd h (q_nle hiN (by omega))) (fun _ => ?_)
        refine q_aload_n B dX7_placeOf_26 rfl rfl ?_
        refine q_iload_n B dX7_placeOf_27 rfl rfl ?_
        refine q_iconst (v := nI 2) B dX7_placeOf_28 rfl ?_
        refine q_rtV B (s_of hm ht (by decide)) kv_yX7_of ki_yX7_of ks_yX7_of km_X7_39 rfl (ci := 7) rfl rfl hm.1 (by decide) rfl (Nat.le_of_ble_eq_true rfl) dX7_placeOf_29 ?_
        refine q_aload_n B dX7_placeOf_32 rfl rfl ?_
        refine q_iload_n B dX7_placeOf_33 rfl rfl ?_
        refine q_iconst (v := nI 2) B dX7_placeOf_34 rfl ?_
        refine q_rtV B (s_of hm (by omega) (by decide)) kv_yX7_of ki_yX7_of ks_yX7_of km_X7_39 rfl (ci := 7) rfl rfl hm.1 (by decide) rfl (Nat.le_of_ble_eq_true rfl) dX7_placeOf_35 ?_
        refine q_isub B dX7_placeOf_38 ?_
        refine q_istore B dX7_placeOf_39 (Nat.le_of_ble_eq_true rfl) rfl ?_
        refine q_iload_n B dX7_placeOf_41 rfl rfl ?_
        refine q_join 71 (if σ (57 + 7 * i + 4) = 0 ∧ (0 < σ (57 + 7 * t + 2) - σ (57 + 7 * i + 2) ∨ (σ (57 + 7 * t + 2) - σ (57 + 7 * i + 2) = 0 ∧ i < t)) then 1 else 0) ?_ (fun j_42 => ?_)
        · skip
          refine q_iadd B dX7_placeOf_71 ?_
          refine q_istore_n B dX7_placeOf_72 rfl (Nat.le_of_ble_eq_true rfl) rfl ?_
          refine q_iinc2 (y := nI (i + 1)) B dX7_placeOf_73 rfl (q_inc1 _) (Nat.le_of_ble_eq_true rfl) rfl ?_
          refine q_goto (tgt := 16) B dX7_placeOf_76 (by decide) ?_
          exact q_tk (ih (i + 1) _ (by omega) (by rw [← hinv]; rfl)) rfl (q_ac rfl (q_ac rfl (q_ac rfl (q_ac rfl q_an))))
        · skip
          refine q_aload_n B dX7_placeOf_42 rfl rfl ?_
          refine q_iload_n B dX7_placeOf_43 rfl rfl ?_
          refine q_iconst (v := nI 4) B dX7_placeOf_44 rfl ?_
          refine q_rtV B (s_of hm (by omega) (by decide)) kv_yX7_of ki_yX7_of ks_yX7_of km_X7_39 rfl (ci := 7) rfl rfl hm.1 (by decide) rfl (Nat.le_of_ble_eq_true rfl) dX7_placeOf_45 ?_
          refine q_if_ne (tgt := 70) B dX7_placeOf_48 (by decide) (fun c_48 => ?_) (fun c_48 => ?_)
          · skip
            refine q_iconst (v := 0) B dX7_placeOf_70 rfl ?_
            exact q_top (by first | (rw [if_pos ⟨c_48, Or.inl c_53⟩]; done) | (rw [if_pos ⟨c_48, Or.inr ⟨c_58, h63⟩⟩]; done) | (rw [if_neg (fun h => c_48 h.1)]; done) | (rw [if_neg (fun h => h.2.elim c_53 (fun q => c_58 q.1))]; done) | (rw [if_neg (fun h => h.2.elim c_53 (fun q => absurd q.2 h63))]; done)) j_42
          · skip
            refine q_iload B dX7_placeOf_51 rfl ?_
            refine q_if_gt (tgt := 66) B dX7_placeOf_53 (by decide) (fun c_53 => ?_) (fun c_53 => ?_)
            · skip
              refine q_iconst (v := 1) B dX7_placeOf_66 rfl ?_
              refine q_goto (tgt := 71) B dX7_placeOf_67 (by decide) ?_
              exact q_top (by first | (rw [if_pos ⟨c_48, Or.inl c_53⟩]; done) | (rw [if_pos ⟨c_48, Or.inr ⟨c_58, h63⟩⟩]; done) | (rw [if_neg (fun h => c_48 h.1)]; done) | (rw [if_neg (fun h => h.2.elim c_53 (fun q => c_58 q.1))]; done) | (rw [if_neg (fun h => h.2.elim c_53 (fun q => absurd q.2 h63))]; done)) j_42
            · skip
              refine q_iload B dX7_placeOf_56 rfl ?_
              refine q_if_ne (tgt := 70) B dX7_placeOf_58 (by decide) (fun c_58 => ?_) (fun c_58 => ?_)
              · skip
                refine q_iconst (v := 0) B dX7_placeOf_70 rfl ?_
                exact q_top (by first | (rw [if_pos ⟨c_48, Or.inl c_53⟩]; done) | (rw [if_pos ⟨c_48, Or.inr ⟨c_58, h63⟩⟩]; done) | (rw [if_neg (fun h => c_48 h.1)]; done) | (rw [if_neg (fun h => h.2.elim c_53 (fun q => c_58 q.1))]; done) | (rw [if_neg (fun h => h.2.elim c_53 (fun q => absurd q.2 h63))]; done)) j_42
              · skip
                refine q_iload_n B dX7_placeOf_61 rfl rfl ?_
                refine q_iload_n B dX7_placeOf_62 rfl rfl ?_
                refine q_icmp_ge (tgt := 70) B dX7_placeOf_63 (by decide) (fun c_63 => ?_) (fun c_63 => ?_)
                · skip
                  have h63 : ¬ i < t := fun q => absurd c_63 (q_nle q (by omega))
                  refine q_iconst (v := 0) B dX7_placeOf_70 rfl ?_
                  exact q_top (by first | (rw [if_pos ⟨c_48, Or.inl c_53⟩]; done) | (rw [if_pos ⟨c_48, Or.inr ⟨c_58, h63⟩⟩]; done) | (rw [if_neg (fun h => c_48 h.1)]; done) | (rw [if_neg (fun h => h.2.elim c_53 (fun q => c_58 q.1))]; done) | (rw [if_neg (fun h => h.2.elim c_53 (fun q => absurd q.2 h63))]; done)) j_42
                · skip
                  have h63 : i < t := by
                    rcases Nat.lt_or_ge i t with q | q
                    · exact q
                    · exact absurd (q_le q (by omega)) c_63
                  refine q_iconst (v := 1) B dX7_placeOf_66 rfl ?_
                  refine q_goto (tgt := 71) B dX7_placeOf_67 (by decide) ?_
                  exact q_top (by first | (rw [if_pos ⟨c_48, Or.inl c_53⟩]; done) | (rw [if_pos ⟨c_48, Or.inr ⟨c_58, h63⟩⟩]; done) | (rw [if_neg (fun h => c_48 h.1)]; done) | (rw [if_neg (fun h => h.2.elim c_53 (fun q => c_58 q.1))]; done) | (rw [if_neg (fun h => h.2.elim c_53 (fun q => absurd q.2 h63))]; done)) j_42
    exact q_tk (hl_16 T 0 0 (by omega) rfl) rfl (q_ac rfl (q_ac rfl (q_ac rfl (q_ac rfl q_an))))
  · skip
    refine q_bipush (v := -6) B dX7_placeOf_9 rfl ?_
    exact q_iret BM rfl dX7_placeOf_11 ⟨by rw [a_place, if_neg c_6], rfl, rfl⟩
set_option maxRecDepth 100000 in
set_option maxHeartbeats 4000000 in
theorem s_brokenOnes {Sh : q_Sh} {I : q_Mem} {σ : a_A} {o : Nat} (hm : mOk Sh o) {T F : Nat} (hW : a_W T F σ) {p : Int32} : q_Rt mX7_brokenOnes 1 [.ref o, .int p] Sh (q_setA I (o + 1) σ) (some (.int (a_broken σ p))) (q_setA I (o + 1) σ) := by
  refine q_rt_of (by decide) (Nat.le_of_ble_eq_true rfl) fun Γ BM => ?_
  have B := BM.1
  have hT := hW.1.1
  have hT2 := hW.1.2
  have hF := hW.2.1.1
  have hF2 := hW.2.1.2
  have haT := a_W_T hW
  show q_W Γ mX7_brokenOnes 0 0 Sh (q_setA I (o + 1) σ) 0 [(0, .ref o), (1, .int p)] []
  refine q_iconst (v := 0) B dX7_brokenOnes_0 rfl ?_
  refine q_istore_n B dX7_brokenOnes_1 rfl (Nat.le_of_ble_eq_true rfl) rfl ?_
  refine q_iconst (v := nI 0) B dX7_brokenOnes_2 rfl ?_
  refine q_istore_n B dX7_brokenOnes_3 rfl (Nat.le_of_ble_eq_true rfl) rfl ?_
  have hl_4 : ∀ (n i : Nat) (c : Int32), i + n = T → q_fold (fun i (n : Int32) => n + (if σ (57 + 7 * i + 4) < nI 2 then (σ (57 + 7 * i + 1) >>> (p &&& 31)) &&& nI 1 else 0)) i 0 = c → q_W Γ mX7_brokenOnes 0 0 Sh (q_setA I (o + 1) σ) 4 [(0, .ref o), (1, .int p), (2, .int c), (3, .int (nI i))] [] := by
    intro n
    induction n with
    | zero =>
      intro i c hin hinv
      have hi : i = T := by omega
      subst hi
      refine q_iload_n B dX7_brokenOnes_4 rfl rfl ?_
      refine q_aload_n B dX7_brokenOnes_5 rfl rfl ?_
      refine q_getR B kC_X7 (k := 1) (by decide) rfl kf_X7_7 hm.1 (mR_s hm) dX7_brokenOnes_6 ?_
      refine q_iconst (v := nI 1) B dX7_brokenOnes_9 rfl ?_
      refine q_ialdS2 (n := 1) B (mA_s hm) rfl (by omega) (by decide) hT dX7_brokenOnes_10 ?_
      refine q_icmp_ge (tgt := 47) B dX7_brokenOnes_11 (by decide) (fun _ => ?_) (fun h => absurd (q_le (Nat.le_refl _) (by omega)) h)
      refine q_iload_n B dX7_brokenOnes_47 rfl rfl ?_
      exact q_iret BM rfl dX7_brokenOnes_48 ⟨by rw [a_broken, haT, hinv], rfl, rfl⟩
    | succ n ih =>
      intro i c hin hinv
      have hiN : i < T := by omega
      refine q_iload_n B dX7_brokenOnes_4 rfl rfl ?_
      refine q_aload_n B dX7_brokenOnes_5 rfl rfl ?_
      refine q_getR B kC_X7 (k := 1) (by decide) rfl kf_X7_7 hm.1 (mR_s hm) dX7_brokenOnes_6 ?_
      refine q_iconst (v := nI 1) B dX7_brokenOnes_9 rfl ?_
      refine q_ialdS2 (n := 1) B (mA_s hm) rfl (by omega) (by decide) hT dX7_brokenOnes_10 ?_
      refine q_icmp_ge (tgt := 47) B dX7_brokenOnes_11 (by decide) (fun h => absurd h (q_nle hiN (by omega))) (fun _ => ?_)
      refine q_iload_n B dX7_brokenOnes_14 rfl rfl ?_
      refine q_join 39 (if σ (57 + 7 * i + 4) < nI 2 then (σ (57 + 7 * i + 1) >>> (p &&& 31)) &&& nI 1 else 0) ?_ (fun j_15 => ?_)
      · skip
        refine q_iadd B dX7_brokenOnes_39 ?_
        refine q_istore_n B dX7_brokenOnes_40 rfl (Nat.le_of_ble_eq_true rfl) rfl ?_
        refine q_iinc2 (y := nI (i + 1)) B dX7_brokenOnes_41 rfl (q_inc1 _) (Nat.le_of_ble_eq_true rfl) rfl ?_
        refine q_goto (tgt := 4) B dX7_brokenOnes_44 (by decide) ?_
        exact q_tk (ih (i + 1) _ (by omega) (by rw [← hinv]; rfl)) rfl (q_ac rfl (q_ac rfl (q_ac rfl (q_ac rfl q_an))))
      · skip
        refine q_aload_n B dX7_brokenOnes_15 rfl rfl ?_
        refine q_iload_n B dX7_brokenOnes_16 rfl rfl ?_
        refine q_iconst (v := nI 4) B dX7_brokenOnes_17 rfl ?_
        refine q_rtV B (s_of hm (by omega) (by decide)) kv_yX7_of ki_yX7_of ks_yX7_of km_X7_39 rfl (ci := 7) rfl rfl hm.1 (by decide) rfl (Nat.le_of_ble_eq_true rfl) dX7_brokenOnes_18 ?_
        refine q_iconst (v := nI 2) B dX7_brokenOnes_21 rfl ?_
        refine q_icmp_ge (tgt := 38) B dX7_brokenOnes_22 (by decide) (fun c_22 => ?_) (fun c_22 => ?_)
        · skip
          refine q_iconst (v := 0) B dX7_brokenOnes_38 rfl ?_
          exact q_top (by first | (rw [if_pos (Int32.not_le.mp c_22)]; done) | (rw [if_neg (Int32.not_lt.mpr c_22)]; done)) j_15
        · skip
          refine q_aload_n B dX7_brokenOnes_25 rfl rfl ?_
          refine q_iload_n B dX7_brokenOnes_26 rfl rfl ?_
          refine q_iconst (v := nI 1) B dX7_brokenOnes_27 rfl ?_
          refine q_rtV B (s_of hm (by omega) (by decide)) kv_yX7_of ki_yX7_of ks_yX7_of km_X7_39 rfl (ci := 7) rfl rfl hm.1 (by decide) rfl (Nat.le_of_ble_eq_true rfl) dX7_brokenOnes_28 ?_
          refine q_iload_n B dX7_brokenOnes_31 rfl rfl ?_
          refine q_ishr B dX7_brokenOnes_32 ?_
          refine q_iconst (v := nI 1) B dX7_brokenOnes_33 rfl ?_
          refine q_iand B dX7_brokenOnes_34 ?_
          refine q_goto (tgt := 39) B dX7_brokenOnes_35 (by decide) ?_
          exact q_top (by first | (rw [if_pos (Int32.not_le.mp c_22)]; done) | (rw [if_neg (Int32.not_lt.mpr c_22)]; done)) j_15
  exact q_tk (hl_4 T 0 0 (by omega) rfl) rfl (q_ac rfl (q_ac rfl (q_ac rfl (q_ac rfl q_an))))
set_option maxRecDepth 100000 in
set_option maxHeartbeats 4000000 in
theorem s_scarcest {Sh : q_Sh} {I : q_Mem} {σ : a_A} {o : Nat} (hm : mOk Sh o) {T F : Nat} (hW : a_W T F σ) (h0 : I o 0 = nI 0) : q_Rt mX7_scarcest 2 [.ref o] Sh (q_setA I (o + 1) σ) (some (.int (a_scar σ))) (q_setA I (o + 1) σ) := by
  refine q_rt_of (by decide) (Nat.le_of_ble_eq_true rfl) fun Γ BM => ?_
  have B := BM.1
  have hT := hW.1.1
  have hT2 := hW.1.2
  have hF := hW.2.1.1
  have hF2 := hW.2.1.2
  show q_W Γ mX7_scarcest 0 0 Sh (q_setA I (o + 1) σ) 0 [(0, .ref o)] []
  refine q_aload_n B dX7_scarcest_0 rfl rfl ?_
  refine q_iconst (v := nI 0) B dX7_scarcest_1 rfl ?_
  refine q_putSame B kC_X7 (k := 0) (by decide) rfl kf_X7_32 rfl rfl rfl hm.1 ((congrFun (q_setA_ne (by omega)) _).trans h0) dX7_scarcest_2 ?_
  refine q_bipush (v := -6) B dX7_scarcest_5 rfl ?_
  refine q_istore_n B dX7_scarcest_7 rfl (Nat.le_of_ble_eq_true rfl) rfl ?_
  refine q_iconst (v := 0) B dX7_scarcest_8 rfl ?_
  refine q_istore_n B dX7_scarcest_9 rfl (Nat.le_of_ble_eq_true rfl) rfl ?_
  refine q_iconst (v := nI 0) B dX7_scarcest_10 rfl ?_
  refine q_istore_n B dX7_scarcest_11 rfl (Nat.le_of_ble_eq_true rfl) rfl ?_
  have hl_12 : ∀ (n i : Nat) (b m : Int32), i + n = 8 → q_fold (a_scar1 σ) i (-6, 0) = (b, m) → q_W Γ mX7_scarcest 0 0 Sh (q_setA I (o + 1) σ) 12 [(0, .ref o), (1, .int b), (2, .int m), (3, .int (nI i))] [] := by
    intro n
    induction n with
    | zero =>
      intro i b m hin hinv
      have hi : i = 8 := by omega
      subst hi
      refine q_iload_n B dX7_scarcest_12 rfl rfl ?_
      refine q_bipush (v := nI 8) B dX7_scarcest_13 rfl ?_
      refine q_icmp_ge (tgt := 65) B dX7_scarcest_15 (by decide) (fun _ => ?_) (fun h => absurd (q_le (Nat.le_refl 8) (by decide)) h)
      refine q_iload_n B dX7_scarcest_65 rfl rfl ?_
      exact q_iret BM rfl dX7_scarcest_66 ⟨by rw [a_scar, hinv], rfl, rfl⟩
    | succ n ih =>
      intro i b m hin hinv
      have hiN : i < 8 := by omega
      refine q_iload_n B dX7_scarcest_12 rfl rfl ?_
      refine q_bipush (v := nI 8) B dX7_scarcest_13 rfl ?_
      refine q_icmp_ge (tgt := 65) B dX7_scarcest_15 (by decide) (fun h => absurd h (q_nle hiN (by decide))) (fun _ => ?_)
      refine q_aload_n B dX7_scarcest_18 rfl rfl ?_
      refine q_iload_n B dX7_scarcest_19 rfl rfl ?_
      refine q_rtV B (s_brokenOnes hm hW) kv_yX7_brokenOnes ki_yX7_brokenOnes ks_yX7_brokenOnes km_X7_132 rfl (ci := 7) rfl rfl hm.1 (by decide) rfl (Nat.le_of_ble_eq_true rfl) dX7_scarcest_20 ?_
      refine q_aload_n B dX7_scarcest_23 rfl rfl ?_
      refine q_getR B kC_X7 (k := 1) (by decide) rfl kf_X7_7 hm.1 (mR_s hm) dX7_scarcest_24 ?_
      refine q_iconst (v := nI 3) B dX7_scarcest_27 rfl ?_
      refine q_iload_n B dX7_scarcest_28 rfl rfl ?_
      refine q_iadd B dX7_scarcest_29 ?_
      refine q_ialdS (n := 3 + i) B (mA_s hm) (by simp only [nI_add, q_nI_mul]) (by omega) (by decide) dX7_scarcest_30 ?_
      refine q_isub B dX7_scarcest_31 ?_
      refine q_istore B dX7_scarcest_32 (Nat.le_of_ble_eq_true rfl) rfl ?_
      refine q_join 45 (if m < a_broken σ (nI i) - σ (3 + i) then nI i else b) ?_ (fun j_34 => ?_)
      · skip
        refine q_istore_n B dX7_scarcest_45 rfl (Nat.le_of_ble_eq_true rfl) rfl ?_
        refine q_join 58 (if m < a_broken σ (nI i) - σ (3 + i) then a_broken σ (nI i) - σ (3 + i) else m) ?_ (fun j_46 => ?_)
        · skip
          refine q_istore_n B dX7_scarcest_58 rfl (Nat.le_of_ble_eq_true rfl) rfl ?_
          refine q_iinc2 (y := nI (i + 1)) B dX7_scarcest_59 rfl (q_inc1 _) (Nat.le_of_ble_eq_true rfl) rfl ?_
          refine q_goto (tgt := 12) B dX7_scarcest_62 (by decide) ?_
          exact q_tk (ih (i + 1) _ _ (by omega) (by show a_scar1 σ i (q_fold _ i _) = _; rw [hinv]; rfl)) rfl (q_ac rfl (q_ac rfl (q_ac rfl (q_ac rfl q_an))))
        · skip
          refine q_iload B dX7_scarcest_46 rfl ?_
          refine q_iload_n B dX7_scarcest_48 rfl rfl ?_
          refine q_icmp_le (tgt := 57) B dX7_scarcest_49 (by decide) (fun c_49 => ?_) (fun c_49 => ?_)
          · skip
            refine q_iload_n B dX7_scarcest_57 rfl rfl ?_
            exact q_top (by first | (rw [if_pos (Int32.not_le.mp c_49)]; done) | (rw [if_neg (Int32.not_lt.mpr c_49)]; done)) j_46
          · skip
            refine q_iload B dX7_scarcest_52 rfl ?_
            refine q_goto (tgt := 58) B dX7_scarcest_54 (by decide) ?_
            exact q_top (by first | (rw [if_pos (Int32.not_le.mp c_49)]; done) | (rw [if_neg (Int32.not_lt.mpr c_49)]; done)) j_46
      · skip
        refine q_iload B dX7_scarcest_34 rfl ?_
        refine q_iload_n B dX7_scarcest_36 rfl rfl ?_
        refine q_icmp_le (tgt := 44) B dX7_scarcest_37 (by decide) (fun c_37 => ?_) (fun c_37 => ?_)
        · skip
          refine q_iload_n B dX7_scarcest_44 rfl rfl ?_
          exact q_top (by first | (rw [if_pos (Int32.not_le.mp c_37)]; done) | (rw [if_neg (Int32.not_lt.mpr c_37)]; done)) j_34
        · skip
          refine q_iload_n B dX7_scarcest_40 rfl rfl ?_
          refine q_goto (tgt := 45) B dX7_scarcest_41 (by decide) ?_
          exact q_top (by first | (rw [if_pos (Int32.not_le.mp c_37)]; done) | (rw [if_neg (Int32.not_lt.mpr c_37)]; done)) j_34
  exact q_tk (hl_12 8 0 (-6) 0 (by omega) rfl) rfl (q_ac rfl (q_ac rfl (q_ac rfl (q_ac rfl q_an))))
