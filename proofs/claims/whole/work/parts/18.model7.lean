set_option maxRecDepth 100000 in
set_option maxHeartbeats 4000000 in
theorem s_save_no {Sh : q_Sh} {I : q_Mem} {σ : a_A} {o : Nat} (hm : mOk Sh o) {T F : Nat} (hW : a_W T F σ) (h0 : I o 0 = nI 0) {t : Int32} (hr : ¬ (nI 0 ≤ t ∧ t ≤ nI 1)) : q_Rt mX7_save 1 [.ref o, .int t] Sh (q_setA I (o + 1) σ) (some (.int (-2))) (q_setA I (o + 1) σ) := by
  refine q_rt_of (by decide) (Nat.le_of_ble_eq_true rfl) fun Γ BM => ?_
  have B := BM.1
  show q_W Γ mX7_save 0 0 Sh (q_setA I (o + 1) σ) 0 [(0, .ref o), (1, .int t)] []
  refine q_aload_n B dX7_save_0 rfl rfl ?_
  refine q_iconst (v := nI 0) B dX7_save_1 rfl ?_
  refine q_putSame B kC_X7 (k := 0) (by decide) rfl kf_X7_32 rfl rfl rfl hm.1 ((congrFun (q_setA_ne (by omega)) _).trans h0) dX7_save_2 ?_
  refine q_iload_n B dX7_save_5 rfl rfl ?_
  refine q_iconst (v := nI 0) B dX7_save_6 rfl ?_
  refine q_iconst (v := nI 1) B dX7_save_7 rfl ?_
  refine q_rtS B s_in kv_yX7_in kt_yX7_in km_X7_94 rfl (by decide) rfl (Nat.le_of_ble_eq_true rfl) dX7_save_8 ?_
  refine q_if_ne (tgt := 17) B dX7_save_11 (by decide) (fun h => absurd ((if_neg hr)) h) (fun _ => ?_)
  refine q_bipush (v := -2) B dX7_save_14 rfl ?_
  exact q_iret BM rfl dX7_save_16 ⟨rfl, rfl, rfl⟩
set_option maxRecDepth 100000 in
set_option maxHeartbeats 4000000 in
theorem s_save_yes {Sh : q_Sh} {I : q_Mem} {σ : a_A} {o : Nat} (hm : mOk Sh o) {T F : Nat} (hW : a_W T F σ) (h0 : I o 0 = nI 0) {c : Nat} (hc : c < 2) : q_Rt mX7_save 1 [.ref o, .int (nI c)] Sh (q_setA I (o + 1) σ) (some (.int (nI T))) (q_setA (q_setA (q_setA I (o + 4) (a_recS (I (o + 4)) σ c)) (o + 5) (upd (I (o + 5)) c 1)) (o + 1) σ) := by
  refine q_rt_of (by decide) (Nat.le_of_ble_eq_true rfl) fun Γ BM => ?_
  have B := BM.1
  have hr : nI 0 ≤ nI c ∧ nI c ≤ nI 1 := ⟨(nI_leI (by omega) (by omega)).mpr (Nat.zero_le c), (nI_leI (by omega) (by omega)).mpr (by omega)⟩
  have hT := hW.1.1
  show q_W Γ mX7_save 0 0 Sh (q_setA I (o + 1) σ) 0 [(0, .ref o), (1, .int (nI c))] []
  refine q_aload_n B dX7_save_0 rfl rfl ?_
  refine q_iconst (v := nI 0) B dX7_save_1 rfl ?_
  refine q_putSame B kC_X7 (k := 0) (by decide) rfl kf_X7_32 rfl rfl rfl hm.1 ((congrFun (q_setA_ne (by omega)) _).trans h0) dX7_save_2 ?_
  refine q_iload_n B dX7_save_5 rfl rfl ?_
  refine q_iconst (v := nI 0) B dX7_save_6 rfl ?_
  refine q_iconst (v := nI 1) B dX7_save_7 rfl ?_
  refine q_rtS B s_in kv_yX7_in kt_yX7_in km_X7_94 rfl (by decide) rfl (Nat.le_of_ble_eq_true rfl) dX7_save_8 ?_
  refine q_if_ne (tgt := 17) B dX7_save_11 (by decide) (fun _ => ?_) (fun h => absurd h ((by rw [if_pos hr]; decide)))
  refine q_iconst (v := nI 0) B dX7_save_17 rfl ?_
  refine q_istore_n B dX7_save_18 rfl (Nat.le_of_ble_eq_true rfl) rfl ?_
  have hl_19 : ∀ (n i : Nat) , i + n = 267 → q_W Γ mX7_save 0 0 Sh (q_setA (q_setA I (o + 4) (a_rs i (I (o + 4)) σ c)) (o + 1) σ) 19 [(0, .ref o), (1, .int (nI c)), (2, .int (nI i))] [] := by
    intro n
    induction n with
    | zero =>
      intro i  hin
      have hi : i = 267 := by omega
      subst hi
      refine q_iload_n B dX7_save_19 rfl rfl ?_
      refine q_sipush (v := nI 267) B dX7_save_20 rfl ?_
      refine q_icmp_ge (tgt := 50) B dX7_save_23 (by decide) (fun _ => ?_) (fun h => absurd (q_le (Nat.le_refl 267) (by decide)) h)
      refine q_aload_n B dX7_save_50 rfl rfl ?_
      refine q_getR B kC_X7 (k := 6) (by decide) rfl kf_X7_22 hm.1 (mR_hasSlot hm) dX7_save_51 ?_
      refine q_iload_n B dX7_save_54 rfl rfl ?_
      refine q_iconst (v := 1) B dX7_save_55 rfl ?_
      refine q_zastO (n := c) B (by omega) (mA_hasSlot hm) rfl (by omega) (by decide) rfl dX7_save_56 ?_
      refine q_aload_n B dX7_save_57 rfl rfl ?_
      refine q_getR B kC_X7 (k := 1) (by decide) rfl kf_X7_7 hm.1 (mR_s hm) dX7_save_58 ?_
      refine q_iconst (v := nI 1) B dX7_save_61 rfl ?_
      refine q_ialdS2 (n := 1) B (mA_s hm) rfl (by omega) (by decide) hT dX7_save_62 ?_
      exact q_iret BM rfl dX7_save_63 ⟨rfl, rfl, by rw [q_setA_ne (l := o + 4) (m := o + 5) (by omega)]; rfl⟩
    | succ n ih =>
      intro i  hin
      have hiN : i < 267 := by omega
      refine q_iload_n B dX7_save_19 rfl rfl ?_
      refine q_sipush (v := nI 267) B dX7_save_20 rfl ?_
      refine q_icmp_ge (tgt := 50) B dX7_save_23 (by decide) (fun h => absurd h (q_nle hiN (by decide))) (fun _ => ?_)
      refine q_aload_n B dX7_save_26 rfl rfl ?_
      refine q_getR B kC_X7 (k := 5) (by decide) rfl kf_X7_19 hm.1 (mR_slots hm) dX7_save_27 ?_
      refine q_sipush (v := nI 267) B dX7_save_30 rfl ?_
      refine q_iload_n B dX7_save_33 rfl rfl ?_
      refine q_imul B dX7_save_34 ?_
      refine q_iload_n B dX7_save_35 rfl rfl ?_
      refine q_iadd B dX7_save_36 ?_
      refine q_aload_n B dX7_save_37 rfl rfl ?_
      refine q_getR B kC_X7 (k := 1) (by decide) rfl kf_X7_7 hm.1 (mR_s hm) dX7_save_38 ?_
      refine q_iload_n B dX7_save_41 rfl rfl ?_
      refine q_ialdS (n := i) B (mA_s hm) rfl (by omega) (by decide) dX7_save_42 ?_
      refine q_iastO (n := 267 * c + i) B (by omega) (mA_slots hm) (by simp only [nI_add, q_nI_mul]) (by omega) (by decide) dX7_save_43 ?_
      refine q_iinc2 (y := nI (i + 1)) B dX7_save_44 rfl (q_inc1 _) (Nat.le_of_ble_eq_true rfl) rfl ?_
      refine q_goto (tgt := 19) B dX7_save_47 (by decide) ?_
      exact q_tkm (ih (i + 1) (by omega)) (by rw [q_setA_at, q_setA_setA, a_rs_s]) rfl (q_ac rfl (q_ac rfl (q_ac rfl q_an)))
  exact q_tkm (hl_19 267 0 (by omega)) (by rw [a_rs_0, q_setA_self]) rfl (q_ac rfl (q_ac rfl (q_ac rfl q_an)))
set_option maxRecDepth 100000 in
set_option maxHeartbeats 4000000 in
theorem s_restore_no1 {Sh : q_Sh} {I : q_Mem} {σ : a_A} {o : Nat} (hm : mOk Sh o) {T F : Nat} (hW : a_W T F σ) (h0 : I o 0 = nI 0) {t : Int32} (hr : ¬ (nI 0 ≤ t ∧ t ≤ nI 1)) : q_Rt mX7_restore 1 [.ref o, .int t] Sh (q_setA I (o + 1) σ) (some (.int (-2))) (q_setA I (o + 1) σ) := by
  refine q_rt_of (by decide) (Nat.le_of_ble_eq_true rfl) fun Γ BM => ?_
  have B := BM.1
  show q_W Γ mX7_restore 0 0 Sh (q_setA I (o + 1) σ) 0 [(0, .ref o), (1, .int t)] []
  refine q_aload_n B dX7_restore_0 rfl rfl ?_
  refine q_iconst (v := nI 0) B dX7_restore_1 rfl ?_
  refine q_putSame B kC_X7 (k := 0) (by decide) rfl kf_X7_32 rfl rfl rfl hm.1 ((congrFun (q_setA_ne (by omega)) _).trans h0) dX7_restore_2 ?_
  refine q_iload_n B dX7_restore_5 rfl rfl ?_
  refine q_iconst (v := nI 0) B dX7_restore_6 rfl ?_
  refine q_iconst (v := nI 1) B dX7_restore_7 rfl ?_
  refine q_rtS B s_in kv_yX7_in kt_yX7_in km_X7_94 rfl (by decide) rfl (Nat.le_of_ble_eq_true rfl) dX7_restore_8 ?_
  refine q_if_ne (tgt := 17) B dX7_restore_11 (by decide) (fun h => absurd ((if_neg hr)) h) (fun _ => ?_)
  refine q_bipush (v := -2) B dX7_restore_14 rfl ?_
  exact q_iret BM rfl dX7_restore_16 ⟨rfl, rfl, rfl⟩
set_option maxRecDepth 100000 in
set_option maxHeartbeats 4000000 in
theorem s_restore_no2 {Sh : q_Sh} {I : q_Mem} {σ : a_A} {o : Nat} (hm : mOk Sh o) {T F : Nat} (hW : a_W T F σ) (h0 : I o 0 = nI 0) {c : Nat} (hc : c < 2) (hz : I (o + 5) c = 0) : q_Rt mX7_restore 1 [.ref o, .int (nI c)] Sh (q_setA I (o + 1) σ) (some (.int (-5))) (q_setA I (o + 1) σ) := by
  refine q_rt_of (by decide) (Nat.le_of_ble_eq_true rfl) fun Γ BM => ?_
  have B := BM.1
  have hr : nI 0 ≤ nI c ∧ nI c ≤ nI 1 := ⟨(nI_leI (by omega) (by omega)).mpr (Nat.zero_le c), (nI_leI (by omega) (by omega)).mpr (by omega)⟩
  show q_W Γ mX7_restore 0 0 Sh (q_setA I (o + 1) σ) 0 [(0, .ref o), (1, .int (nI c))] []
  refine q_aload_n B dX7_restore_0 rfl rfl ?_
  refine q_iconst (v := nI 0) B dX7_restore_1 rfl ?_
  refine q_putSame B kC_X7 (k := 0) (by decide) rfl kf_X7_32 rfl rfl rfl hm.1 ((congrFun (q_setA_ne (by omega)) _).trans h0) dX7_restore_2 ?_
  refine q_iload_n B dX7_restore_5 rfl rfl ?_
  refine q_iconst (v := nI 0) B dX7_restore_6 rfl ?_
  refine q_iconst (v := nI 1) B dX7_restore_7 rfl ?_
  refine q_rtS B s_in kv_yX7_in kt_yX7_in km_X7_94 rfl (by decide) rfl (Nat.le_of_ble_eq_true rfl) dX7_restore_8 ?_
  refine q_if_ne (tgt := 17) B dX7_restore_11 (by decide) (fun _ => ?_) (fun h => absurd h ((by rw [if_pos hr]; decide)))
  refine q_aload_n B dX7_restore_17 rfl rfl ?_
  refine q_getR B kC_X7 (k := 6) (by decide) rfl kf_X7_22 hm.1 (mR_hasSlot hm) dX7_restore_18 ?_
  refine q_iload_n B dX7_restore_21 rfl rfl ?_
  refine q_zaldO (n := c) B (by omega) (mA_hasSlot hm) rfl (by omega) (by decide) dX7_restore_22 ?_
  refine q_if_ne (tgt := 29) B dX7_restore_23 (by decide) (fun h => absurd hz h) (fun _ => ?_)
  refine q_bipush (v := -5) B dX7_restore_26 rfl ?_
  exact q_iret BM rfl dX7_restore_28 ⟨rfl, rfl, rfl⟩
set_option maxRecDepth 100000 in
set_option maxHeartbeats 4000000 in
theorem s_restore_yes {Sh : q_Sh} {I : q_Mem} {σ : a_A} {o : Nat} (hm : mOk Sh o) {T F : Nat} (hW : a_W T F σ) (h0 : I o 0 = nI 0) {u : Nat} (hu : u ≤ 6) (hu4 : I o 4 = nI u) {c : Nat} (hc : c < 2) (hz : ¬ I (o + 5) c = 0) : q_Rt mX7_restore 1 [.ref o, .int (nI c)] Sh (q_setA I (o + 1) σ) (some (.int (I (o + 4) (267 * c + 1)))) (q_setA (a_rec I o σ) (o + 1) (fun k => I (o + 4) (267 * c + k))) := by
  refine q_rt_of (by decide) (Nat.le_of_ble_eq_true rfl) fun Γ BM => ?_
  have B := BM.1
  have hr : nI 0 ≤ nI c ∧ nI c ≤ nI 1 := ⟨(nI_leI (by omega) (by omega)).mpr (Nat.zero_le c), (nI_leI (by omega) (by omega)).mpr (by omega)⟩
  show q_W Γ mX7_restore 0 0 Sh (q_setA I (o + 1) σ) 0 [(0, .ref o), (1, .int (nI c))] []
  refine q_aload_n B dX7_restore_0 rfl rfl ?_
  refine q_iconst (v := nI 0) B dX7_restore_1 rfl ?_
  refine q_putSame B kC_X7 (k := 0) (by decide) rfl kf_X7_32 rfl rfl rfl hm.1 ((congrFun (q_setA_ne (by omega)) _).trans h0) dX7_restore_2 ?_
  refine q_iload_n B dX7_restore_5 rfl rfl ?_
  refine q_iconst (v := nI 0) B dX7_restore_6 rfl ?_
  refine q_iconst (v := nI 1) B dX7_restore_7 rfl ?_
  refine q_rtS B s_in kv_yX7_in kt_yX7_in km_X7_94 rfl (by decide) rfl (Nat.le_of_ble_eq_true rfl) dX7_restore_8 ?_
  refine q_if_ne (tgt := 17) B dX7_restore_11 (by decide) (fun _ => ?_) (fun h => absurd h ((by rw [if_pos hr]; decide)))
  refine q_aload_n B dX7_restore_17 rfl rfl ?_
  refine q_getR B kC_X7 (k := 6) (by decide) rfl kf_X7_22 hm.1 (mR_hasSlot hm) dX7_restore_18 ?_
  refine q_iload_n B dX7_restore_21 rfl rfl ?_
  refine q_zaldO (n := c) B (by omega) (mA_hasSlot hm) rfl (by omega) (by decide) dX7_restore_22 ?_
  refine q_if_ne (tgt := 29) B dX7_restore_23 (by decide) (fun _ => ?_) (fun h => absurd h hz)
  refine q_aload_n B dX7_restore_29 rfl rfl ?_
  refine q_rtV B (s_records hm hu hu4) kv_yX7_records ki_yX7_records ks_yX7_records km_X7_102 rfl (ci := 7) rfl rfl hm.1 (by decide) rfl (Nat.le_of_ble_eq_true rfl) dX7_restore_30 ?_
  refine q_iconst (v := nI 0) B dX7_restore_33 rfl ?_
  refine q_istore_n B dX7_restore_34 rfl (Nat.le_of_ble_eq_true rfl) rfl ?_
  have hl_35 : ∀ (n i : Nat) , i + n = 267 → q_W Γ mX7_restore 0 0 Sh (q_setA (a_rec I o σ) (o + 1) (a_cp i (fun k => I (o + 4) (267 * c + k)) σ)) 35 [(0, .ref o), (1, .int (nI c)), (2, .int (nI i))] [] := by
    intro n
    induction n with
    | zero =>
      intro i  hin
      have hi : i = 267 := by omega
      subst hi
      refine q_iload_n B dX7_restore_35 rfl rfl ?_
      refine q_sipush (v := nI 267) B dX7_restore_36 rfl ?_
      refine q_icmp_ge (tgt := 66) B dX7_restore_39 (by decide) (fun _ => ?_) (fun h => absurd (q_le (Nat.le_refl 267) (by decide)) h)
      refine q_norm (mA_s hm) (by decide) (g := fun k => I (o + 4) (267 * c + k)) (fun j hj => a_cp_at (by omega)) ?_
      refine q_aload_n B dX7_restore_66 rfl rfl ?_
      refine q_getR B kC_X7 (k := 1) (by decide) rfl kf_X7_7 hm.1 (mR_s hm) dX7_restore_67 ?_
      refine q_iconst (v := nI 1) B dX7_restore_70 rfl ?_
      refine q_ialdS (n := 1) B (mA_s hm) rfl (by omega) (by decide) dX7_restore_71 ?_
      exact q_iret BM rfl dX7_restore_72 ⟨rfl, rfl, rfl⟩
    | succ n ih =>
      intro i  hin
      have hiN : i < 267 := by omega
      refine q_iload_n B dX7_restore_35 rfl rfl ?_
      refine q_sipush (v := nI 267) B dX7_restore_36 rfl ?_
      refine q_icmp_ge (tgt := 66) B dX7_restore_39 (by decide) (fun h => absurd h (q_nle hiN (by decide))) (fun _ => ?_)
      refine q_aload_n B dX7_restore_42 rfl rfl ?_
      refine q_getR B kC_X7 (k := 1) (by decide) rfl kf_X7_7 hm.1 (mR_s hm) dX7_restore_43 ?_
      refine q_iload_n B dX7_restore_46 rfl rfl ?_
      refine q_aload_n B dX7_restore_47 rfl rfl ?_
      refine q_getR B kC_X7 (k := 5) (by decide) rfl kf_X7_19 hm.1 (mR_slots hm) dX7_restore_48 ?_
      refine q_sipush (v := nI 267) B dX7_restore_51 rfl ?_
      refine q_iload_n B dX7_restore_54 rfl rfl ?_
      refine q_imul B dX7_restore_55 ?_
      refine q_iload_n B dX7_restore_56 rfl rfl ?_
      refine q_iadd B dX7_restore_57 ?_
      refine q_ialdO (n := 267 * c + i) B (by omega) (mA_slots hm) (by simp only [nI_add, q_nI_mul]) (by omega) (by decide) dX7_restore_58 ?_
      refine q_top (y := I (o + 4) (267 * c + i)) (congrFun (a_rec_at (by omega) (by omega)) _) ?_
      refine q_iastS (n := i) B (mA_s hm) rfl (by omega) (by decide) dX7_restore_59 ?_
      refine q_iinc2 (y := nI (i + 1)) B dX7_restore_60 rfl (q_inc1 _) (Nat.le_of_ble_eq_true rfl) rfl ?_
      refine q_goto (tgt := 35) B dX7_restore_63 (by decide) ?_
      exact q_tkm (ih (i + 1) (by omega)) (by rw [show I (o + 4) (267 * c + i) = (fun k => I (o + 4) (267 * c + k)) i from rfl, a_cp_s]) rfl (q_ac rfl (q_ac rfl (q_ac rfl q_an)))
  exact q_tkm (hl_35 267 0 (by omega)) (by rw [a_cp_0]) rfl (q_ac rfl (q_ac rfl (q_ac rfl q_an)))
set_option maxRecDepth 100000 in
set_option maxHeartbeats 4000000 in
theorem s_ofThing_no {Sh : q_Sh} {I : q_Mem} {σ : a_A} {o : Nat} (hm : mOk Sh o) {T F : Nat} (hW : a_W T F σ) (h0 : I o 0 = nI 0) {w : Int32} {t : Int32} (hr : ¬ (nI 0 ≤ t ∧ t < nI T)) : q_Rt mX7_ofThing 2 [.ref o, .int t, .int w] Sh (q_setA I (o + 1) σ) (some (.int (a_ofThing σ t w))) (q_setA I (o + 1) σ) := by
  refine q_rt_of (by decide) (Nat.le_of_ble_eq_true rfl) fun Γ BM => ?_
  have B := BM.1
  show q_W Γ mX7_ofThing 0 0 Sh (q_setA I (o + 1) σ) 0 [(0, .ref o), (1, .int t), (2, .int w)] []
  refine q_aload_n B dX7_ofThing_0 rfl rfl ?_
  refine q_iconst (v := nI 0) B dX7_ofThing_1 rfl ?_
  refine q_putSame B kC_X7 (k := 0) (by decide) rfl kf_X7_32 rfl rfl rfl hm.1 ((congrFun (q_setA_ne (by omega)) _).trans h0) dX7_ofThing_2 ?_
  refine q_aload_n B dX7_ofThing_5 rfl rfl ?_
  refine q_iload_n B dX7_ofThing_6 rfl rfl ?_
  refine q_rtV B (s_isThing hm hW) kv_yX7_isThing ki_yX7_isThing ks_yX7_isThing km_X7_117 rfl (ci := 7) rfl rfl hm.1 (by decide) rfl (Nat.le_of_ble_eq_true rfl) dX7_ofThing_7 ?_
  refine q_if_ne (tgt := 15) B dX7_ofThing_10 (by decide) (fun h => absurd ((if_neg (by rw [hW.1.1]; exact fun q => hr ((a_isT_iff hW.1.2).mp q)))) h) (fun _ => ?_)
  refine q_iconst (v := -1) B dX7_ofThing_13 rfl ?_
  exact q_iret BM rfl dX7_ofThing_14 ⟨by rw [a_ofThing, if_pos (by rw [hW.1.1]; exact hr)], rfl, rfl⟩
set_option maxRecDepth 100000 in
set_option maxHeartbeats 4000000 in
theorem s_ofThing_yes {Sh : q_Sh} {I : q_Mem} {σ : a_A} {o : Nat} (hm : mOk Sh o) {T F : Nat} (hW : a_W T F σ) (h0 : I o 0 = nI 0) {w : Int32} {j : Nat} (hj : j < T) : q_Rt mX7_ofThing 2 [.ref o, .int (nI j), .int w] Sh (q_setA I (o + 1) σ) (some (.int (a_ofThing σ (nI j) w))) (q_setA I (o + 1) σ) := by
  refine q_rt_of (by decide) (Nat.le_of_ble_eq_true rfl) fun Γ BM => ?_
  have B := BM.1
  have hr : nI 0 ≤ nI j ∧ nI j < nI T := ⟨(nI_leI (by omega) (by have := hW.1.2; omega)).mpr (Nat.zero_le j), (nI_ltI (by have := hW.1.2; omega) (by have := hW.1.2; omega)).mpr hj⟩
  have hT2 := hW.1.2
  have hF2 := hW.2.1.2
  have haj : a_n (nI j) = j := nI_clamp (by omega)
  have hr2 : nI 0 ≤ nI j ∧ nI j < σ 1 := by rw [hW.1.1]; exact hr
  show q_W Γ mX7_ofThing 0 0 Sh (q_setA I (o + 1) σ) 0 [(0, .ref o), (1, .int (nI j)), (2, .int w)] []
  refine q_aload_n B dX7_ofThing_0 rfl rfl ?_
  refine q_iconst (v := nI 0) B dX7_ofThing_1 rfl ?_
  refine q_putSame B kC_X7 (k := 0) (by decide) rfl kf_X7_32 rfl rfl rfl hm.1 ((congrFun (q_setA_ne (by omega)) _).trans h0) dX7_ofThing_2 ?_
  refine q_aload_n B dX7_ofThing_5 rfl rfl ?_
  refine q_iload_n B dX7_ofThing_6 rfl rfl ?_
  refine q_rtV B (s_isThing hm hW) kv_yX7_isThing ki_yX7_isThing ks_yX7_isThing km_X7_117 rfl (ci := 7) rfl rfl hm.1 (by decide) rfl (Nat.le_of_ble_eq_true rfl) dX7_ofThing_7 ?_
  refine q_if_ne (tgt := 15) B dX7_ofThing_10 (by decide) (fun _ => ?_) (fun h => absurd h ((by rw [if_pos (by rw [hW.1.1]; exact (a_isT_iff hW.1.2).mpr hr)]; decide)))
  refine q_iload_n B dX7_ofThing_15 rfl rfl ?_
  
  by_cases h5 : w = nI 5
  · subst h5
    refine q_tableIn (off := 32) (tgt := 48) B dX7_ofThing_16 (by decide) (by decide) (by decide) (by decide) ?_
    refine q_aload_n B dX7_ofThing_48 rfl rfl ?_
    refine q_iload_n B dX7_ofThing_49 rfl rfl ?_
    refine q_rtV B (s_fixerOf hm (by rw [a_W_F hW]; exact hW.2.1.1) (by rw [a_W_F hW]; exact hF2)) kv_yX7_fixerOf ki_yX7_fixerOf ks_yX7_fixerOf km_X7_126 rfl (ci := 7) rfl rfl hm.1 (by decide) rfl (Nat.le_of_ble_eq_true rfl) dX7_ofThing_50 ?_
    exact q_iret BM rfl dX7_ofThing_53 ⟨by rw [a_ofThing, if_neg (not_not_intro hr2)]; rw [if_pos rfl], rfl, rfl⟩
  by_cases h6 : w = nI 6
  · subst h6
    refine q_tableIn (off := 38) (tgt := 54) B dX7_ofThing_16 (by decide) (by decide) (by decide) (by decide) ?_
    refine q_aload_n B dX7_ofThing_54 rfl rfl ?_
    refine q_iload_n B dX7_ofThing_55 rfl rfl ?_
    refine q_iconst (v := nI 5) B dX7_ofThing_56 rfl ?_
    refine q_rtV B (s_of hm (by omega) (by decide)) kv_yX7_of ki_yX7_of ks_yX7_of km_X7_39 rfl (ci := 7) rfl rfl hm.1 (by decide) rfl (Nat.le_of_ble_eq_true rfl) dX7_ofThing_57 ?_
    exact q_iret BM rfl dX7_ofThing_60 ⟨by rw [a_ofThing, if_neg (not_not_intro hr2)]; rw [if_neg (by decide), if_pos rfl, haj], rfl, rfl⟩
  by_cases h7 : w = nI 7
  · subst h7
    refine q_tableIn (off := 45) (tgt := 61) B dX7_ofThing_16 (by decide) (by decide) (by decide) (by decide) ?_
    refine q_aload_n B dX7_ofThing_61 rfl rfl ?_
    refine q_iload_n B dX7_ofThing_62 rfl rfl ?_
    refine q_bipush (v := nI 6) B dX7_ofThing_63 rfl ?_
    refine q_rtV B (s_of hm (by omega) (by decide)) kv_yX7_of ki_yX7_of ks_yX7_of km_X7_39 rfl (ci := 7) rfl rfl hm.1 (by decide) rfl (Nat.le_of_ble_eq_true rfl) dX7_ofThing_65 ?_
    exact q_iret BM rfl dX7_ofThing_68 ⟨by rw [a_ofThing, if_neg (not_not_intro hr2)]; rw [if_neg (by decide), if_neg (by decide), if_pos rfl, haj], rfl, rfl⟩
  by_cases h8 : w = nI 8
  · subst h8
    refine q_tableIn (off := 53) (tgt := 69) B dX7_ofThing_16 (by decide) (by decide) (by decide) (by decide) ?_
    refine q_aload_n B dX7_ofThing_69 rfl rfl ?_
    refine q_iload_n B dX7_ofThing_70 rfl rfl ?_
    refine q_rtV B (s_placeOf hm hW (by omega)) kv_yX7_placeOf ki_yX7_placeOf ks_yX7_placeOf km_X7_129 rfl (ci := 7) rfl rfl hm.1 (by decide) rfl (Nat.le_of_ble_eq_true rfl) dX7_ofThing_71 ?_
    exact q_iret BM rfl dX7_ofThing_74 ⟨by rw [a_ofThing, if_neg (not_not_intro hr2)]; rw [if_neg (by decide), if_neg (by decide), if_neg (by decide), if_pos rfl, haj], rfl, rfl⟩
  refine q_tableOut (tgt := 75) B dX7_ofThing_16 (a_tout (lo := 5) (hi := 8) (fun j h1 h2 => by rcases (show j = 5 ∨ j = 6 ∨ j = 7 ∨ j = 8 by omega) with rfl | rfl | rfl | rfl <;> assumption) (by decide)) (by decide) ?_
  refine q_iload_n B dX7_ofThing_75 rfl rfl ?_
  refine q_iconst (v := nI 0) B dX7_ofThing_76 rfl ?_
  refine q_iconst (v := nI 4) B dX7_ofThing_77 rfl ?_
  refine q_rtS B s_in kv_yX7_in kt_yX7_in km_X7_94 rfl (by decide) rfl (Nat.le_of_ble_eq_true rfl) dX7_ofThing_78 ?_
  refine q_if_eq (tgt := 93) B dX7_ofThing_81 (by decide) (fun c_81 => ?_) (fun c_81 => ?_)
  · skip
    have h81 := a_b0 c_81
    refine q_bipush (v := -2) B dX7_ofThing_93 rfl ?_
    exact q_iret BM rfl dX7_ofThing_95 ⟨by rw [a_ofThing, if_neg (not_not_intro hr2)]; rw [if_neg h5, if_neg h6, if_neg h7, if_neg h8]; first | (rw [if_neg h81]; done) | (rw [if_pos h81, haj, hax]; done), rfl, rfl⟩
  · skip
    have h81 := a_b1 c_81
    obtain ⟨x, hx, ex⟩ := a_in06 rfl rfl (by decide) h81
    have hax : a_n w = x := by rw [ex]; exact nI_clamp (by omega)
    refine q_aload_n B dX7_ofThing_84 rfl rfl ?_
    refine q_iload_n B dX7_ofThing_85 rfl rfl ?_
    refine q_iload_n B dX7_ofThing_86 rfl rfl ?_
    refine q_top ex ?_
    refine q_rtV B (s_of hm (by omega) (by omega)) kv_yX7_of ki_yX7_of ks_yX7_of km_X7_39 rfl (ci := 7) rfl rfl hm.1 (by decide) rfl (Nat.le_of_ble_eq_true rfl) dX7_ofThing_87 ?_
    refine q_goto (tgt := 95) B dX7_ofThing_90 (by decide) ?_
    exact q_iret BM rfl dX7_ofThing_95 ⟨by rw [a_ofThing, if_neg (not_not_intro hr2)]; rw [if_neg h5, if_neg h6, if_neg h7, if_neg h8]; first | (rw [if_neg h81]; done) | (rw [if_pos h81, haj, hax]; done), rfl, rfl⟩
set_option maxRecDepth 100000 in
set_option maxHeartbeats 4000000 in
theorem s_ofFixer_no {Sh : q_Sh} {I : q_Mem} {σ : a_A} {o : Nat} (hm : mOk Sh o) {T F : Nat} (hW : a_W T F σ) (h0 : I o 0 = nI 0) {w : Int32} {f : Int32} (hr : ¬ (nI 0 ≤ f ∧ f < nI F)) : q_Rt mX7_ofFixer 2 [.ref o, .int f, .int w] Sh (q_setA I (o + 1) σ) (some (.int (a_ofFixer σ f w))) (q_setA I (o + 1) σ) := by
  refine q_rt_of (by decide) (Nat.le_of_ble_eq_true rfl) fun Γ BM => ?_
  have B := BM.1
  show q_W Γ mX7_ofFixer 0 0 Sh (q_setA I (o + 1) σ) 0 [(0, .ref o), (1, .int f), (2, .int w)] []
  refine q_aload_n B dX7_ofFixer_0 rfl rfl ?_
  refine q_iconst (v := nI 0) B dX7_ofFixer_1 rfl ?_
  refine q_putSame B kC_X7 (k := 0) (by decide) rfl kf_X7_32 rfl rfl rfl hm.1 ((congrFun (q_setA_ne (by omega)) _).trans h0) dX7_ofFixer_2 ?_
  refine q_iload_n B dX7_ofFixer_5 rfl rfl ?_
  refine q_iconst (v := nI 0) B dX7_ofFixer_6 rfl ?_
  refine q_aload_n B dX7_ofFixer_7 rfl rfl ?_
  refine q_getR B kC_X7 (k := 1) (by decide) rfl kf_X7_7 hm.1 (mR_s hm) dX7_ofFixer_8 ?_
  refine q_iconst (v := nI 2) B dX7_ofFixer_11 rfl ?_
  refine q_ialdS (n := 2) B (mA_s hm) rfl (by omega) (by decide) dX7_ofFixer_12 ?_
  refine q_iconst (v := nI 1) B dX7_ofFixer_13 rfl ?_
  refine q_isub B dX7_ofFixer_14 ?_
  refine q_rtS B s_in kv_yX7_in kt_yX7_in km_X7_94 rfl (by decide) rfl (Nat.le_of_ble_eq_true rfl) dX7_ofFixer_15 ?_
  refine q_if_ne (tgt := 23) B dX7_ofFixer_18 (by decide) (fun h => absurd ((if_neg (by rw [hW.2.1.1]; exact fun q => hr ((a_isT_iff (by have := hW.2.1.2; omega)).mp q)))) h) (fun _ => ?_)
  refine q_iconst (v := -1) B dX7_ofFixer_21 rfl ?_
  exact q_iret BM rfl dX7_ofFixer_22 ⟨by rw [a_ofFixer, if_pos (by rw [hW.2.1.1]; exact hr)], rfl, rfl⟩
set_option maxRecDepth 100000 in
set_option maxHeartbeats 4000000 in
theorem s_ofFixer_yes {Sh : q_Sh} {I : q_Mem} {σ : a_A} {o : Nat} (hm : mOk Sh o) {T F : Nat} (hW : a_W T F σ) (h0 : I o 0 = nI 0) {w : Int32} {j : Nat} (hj : j < F) : q_Rt mX7_ofFixer 2 [.ref o, .int (nI j), .int w] Sh (q_setA I (o + 1) σ) (some (.int (a_ofFixer σ (nI j) w))) (q_setA I (o + 1) σ) := by
  refine q_rt_of (by decide) (Nat.le_of_ble_eq_true rfl) fun Γ BM => ?_
  have B := BM.1
  have hr : nI 0 ≤ nI j ∧ nI j < nI F := ⟨(nI_leI (by omega) (by have := hW.2.1.2; omega)).mpr (Nat.zero_le j), (nI_ltI (by have := hW.2.1.2; omega) (by have := hW.2.1.2; omega)).mpr hj⟩
  have hT2 := hW.1.2
  have hF2 := hW.2.1.2
  have haj : a_n (nI j) = j := nI_clamp (by omega)
  have hr2 : nI 0 ≤ nI j ∧ nI j < σ 2 := by rw [hW.2.1.1]; exact hr
  show q_W Γ mX7_ofFixer 0 0 Sh (q_setA I (o + 1) σ) 0 [(0, .ref o), (1, .int (nI j)), (2, .int w)] []
  refine q_aload_n B dX7_ofFixer_0 rfl rfl ?_
  refine q_iconst (v := nI 0) B dX7_ofFixer_1 rfl ?_
  refine q_putSame B kC_X7 (k := 0) (by decide) rfl kf_X7_32 rfl rfl rfl hm.1 ((congrFun (q_setA_ne (by omega)) _).trans h0) dX7_ofFixer_2 ?_
  refine q_iload_n B dX7_ofFixer_5 rfl rfl ?_
  refine q_iconst (v := nI 0) B dX7_ofFixer_6 rfl ?_
  refine q_aload_n B dX7_ofFixer_7 rfl rfl ?_
  refine q_getR B kC_X7 (k := 1) (by decide) rfl kf_X7_7 hm.1 (mR_s hm) dX7_ofFixer_8 ?_
  refine q_iconst (v := nI 2) B dX7_ofFixer_11 rfl ?_
  refine q_ialdS (n := 2) B (mA_s hm) rfl (by omega) (by decide) dX7_ofFixer_12 ?_
  refine q_iconst (v := nI 1) B dX7_ofFixer_13 rfl ?_
  refine q_isub B dX7_ofFixer_14 ?_
  refine q_rtS B s_in kv_yX7_in kt_yX7_in km_X7_94 rfl (by decide) rfl (Nat.le_of_ble_eq_true rfl) dX7_ofFixer_15 ?_
  refine q_if_ne (tgt := 23) B dX7_ofFixer_18 (by decide) (fun _ => ?_) (fun h => absurd h ((by rw [if_pos (by rw [hW.2.1.1]; exact (a_isT_iff (by have := hW.2.1.2; omega)).mpr hr)]; decide)))
  refine q_iload_n B dX7_ofFixer_23 rfl rfl ?_
  
  by_cases h2 : w = nI 2
  · subst h2
    refine q_lookup (off := 28) (tgt := 52) B dX7_ofFixer_24 (by decide) (by decide) (by decide) ?_
    refine q_aload_n B dX7_ofFixer_52 rfl rfl ?_
    refine q_iload_n B dX7_ofFixer_53 rfl rfl ?_
    refine q_iconst (v := nI 2) B dX7_ofFixer_54 rfl ?_
    refine q_rtV B (s_fixer0 hm (by omega) (by decide)) kv_yX7_fixer0 ki_yX7_fixer0 ks_yX7_fixer0 km_X7_51 rfl (ci := 7) rfl rfl hm.1 (by decide) rfl (Nat.le_of_ble_eq_true rfl) dX7_ofFixer_55 ?_
    refine q_if_ne (tgt := 66) B dX7_ofFixer_58 (by decide) (fun c_58 => ?_) (fun c_58 => ?_)
    · skip
      refine q_aload_n B dX7_ofFixer_66 rfl rfl ?_
      refine q_iload_n B dX7_ofFixer_67 rfl rfl ?_
      refine q_iconst (v := nI 2) B dX7_ofFixer_68 rfl ?_
      refine q_rtV B (s_fixer0 hm (by omega) (by decide)) kv_yX7_fixer0 ki_yX7_fixer0 ks_yX7_fixer0 km_X7_51 rfl (ci := 7) rfl rfl hm.1 (by decide) rfl (Nat.le_of_ble_eq_true rfl) dX7_ofFixer_69 ?_
      refine q_iconst (v := 1) B dX7_ofFixer_72 rfl ?_
      refine q_isub B dX7_ofFixer_73 ?_
      exact q_iret BM rfl dX7_ofFixer_74 ⟨by rw [a_ofFixer, if_neg (not_not_intro hr2)]; rw [if_pos rfl, haj]; first | (rw [if_pos c_58]; done) | (rw [if_neg c_58]; done), rfl, rfl⟩
    · skip
      refine q_bipush (v := -6) B dX7_ofFixer_61 rfl ?_
      refine q_goto (tgt := 74) B dX7_ofFixer_63 (by decide) ?_
      exact q_iret BM rfl dX7_ofFixer_74 ⟨by rw [a_ofFixer, if_neg (not_not_intro hr2)]; rw [if_pos rfl, haj]; first | (rw [if_pos c_58]; done) | (rw [if_neg c_58]; done), rfl, rfl⟩
  by_cases h6 : w = nI 6
  · subst h6
    refine q_lookup (off := 51) (tgt := 75) B dX7_ofFixer_24 (by decide) (by decide) (by decide) ?_
    refine q_aload_n B dX7_ofFixer_75 rfl rfl ?_
    refine q_aload_n B dX7_ofFixer_76 rfl rfl ?_
    refine q_iload_n B dX7_ofFixer_77 rfl rfl ?_
    refine q_iconst (v := nI 0) B dX7_ofFixer_78 rfl ?_
    refine q_rtV B (s_fixer0_0 hm (by omega)) kv_yX7_fixer0 ki_yX7_fixer0 ks_yX7_fixer0 km_X7_51 rfl (ci := 7) rfl rfl hm.1 (by decide) rfl (Nat.le_of_ble_eq_true rfl) dX7_ofFixer_79 ?_
    refine q_rtV B (s_nextForW hm hW) kv_yX7_nextFor ki_yX7_nextFor ks_yX7_nextFor km_X7_79 rfl (ci := 7) rfl rfl hm.1 (by decide) rfl (Nat.le_of_ble_eq_true rfl) dX7_ofFixer_82 ?_
    exact q_iret BM rfl dX7_ofFixer_85 ⟨by rw [a_ofFixer, if_neg (not_not_intro hr2)]; rw [if_neg (by decide), if_pos rfl, haj], rfl, rfl⟩
  have g2 := a_toInt_ne (j := 2) (by decide) h2
  have g6 := a_toInt_ne (j := 6) (by decide) h6
  refine q_lookup (off := 62) (tgt := 86) B dX7_ofFixer_24 (by decide) (by simp [Op.lookupswitch.offset]; omega) (by decide) ?_
  refine q_iload_n B dX7_ofFixer_86 rfl rfl ?_
  refine q_iconst (v := nI 0) B dX7_ofFixer_87 rfl ?_
  refine q_iconst (v := nI 5) B dX7_ofFixer_88 rfl ?_
  refine q_rtS B s_in kv_yX7_in kt_yX7_in km_X7_94 rfl (by decide) rfl (Nat.le_of_ble_eq_true rfl) dX7_ofFixer_89 ?_
  refine q_if_eq (tgt := 104) B dX7_ofFixer_92 (by decide) (fun c_92 => ?_) (fun c_92 => ?_)
  · skip
    have h92 := a_b0 c_92
    refine q_bipush (v := -2) B dX7_ofFixer_104 rfl ?_
    exact q_iret BM rfl dX7_ofFixer_106 ⟨by rw [a_ofFixer, if_neg (not_not_intro hr2)]; rw [if_neg h2, if_neg h6]; first | (rw [if_neg h92]; done) | (rw [if_pos h92, haj, hax]; done), rfl, rfl⟩
  · skip
    have h92 := a_b1 c_92
    obtain ⟨x, hx, ex⟩ := a_in06 rfl rfl (by decide) h92
    have hax : a_n w = x := by rw [ex]; exact nI_clamp (by omega)
    refine q_aload_n B dX7_ofFixer_95 rfl rfl ?_
    refine q_iload_n B dX7_ofFixer_96 rfl rfl ?_
    refine q_iload_n B dX7_ofFixer_97 rfl rfl ?_
    refine q_top ex ?_
    refine q_rtV B (s_fixer0 hm (by omega) (by omega)) kv_yX7_fixer0 ki_yX7_fixer0 ks_yX7_fixer0 km_X7_51 rfl (ci := 7) rfl rfl hm.1 (by decide) rfl (Nat.le_of_ble_eq_true rfl) dX7_ofFixer_98 ?_
    refine q_goto (tgt := 106) B dX7_ofFixer_101 (by decide) ?_
    exact q_iret BM rfl dX7_ofFixer_106 ⟨by rw [a_ofFixer, if_neg (not_not_intro hr2)]; rw [if_neg h2, if_neg h6]; first | (rw [if_neg h92]; done) | (rw [if_pos h92, haj, hax]; done), rfl, rfl⟩
set_option maxRecDepth 100000 in
set_option maxHeartbeats 4000000 in
theorem s_ofPart_no {Sh : q_Sh} {I : q_Mem} {σ : a_A} {o : Nat} (hm : mOk Sh o) {T F : Nat} (hW : a_W T F σ) (h0 : I o 0 = nI 0) {p w : Int32} (hr : ¬ (nI 0 ≤ p ∧ p ≤ nI 7)) : q_Rt mX7_ofPart 2 [.ref o, .int p, .int w] Sh (q_setA I (o + 1) σ) (some (.int (a_ofPart σ p w))) (q_setA I (o + 1) σ) := by
  refine q_rt_of (by decide) (Nat.le_of_ble_eq_true rfl) fun Γ BM => ?_
  have B := BM.1
  show q_W Γ mX7_ofPart 0 0 Sh (q_setA I (o + 1) σ) 0 [(0, .ref o), (1, .int p), (2, .int w)] []
  refine q_aload_n B dX7_ofPart_0 rfl rfl ?_
  refine q_iconst (v := nI 0) B dX7_ofPart_1 rfl ?_
  refine q_putSame B kC_X7 (k := 0) (by decide) rfl kf_X7_32 rfl rfl rfl hm.1 ((congrFun (q_setA_ne (by omega)) _).trans h0) dX7_ofPart_2 ?_
  refine q_iload_n B dX7_ofPart_5 rfl rfl ?_
  refine q_iconst (v := nI 0) B dX7_ofPart_6 rfl ?_
  refine q_bipush (v := nI 7) B dX7_ofPart_7 rfl ?_
  refine q_rtS B s_in kv_yX7_in kt_yX7_in km_X7_94 rfl (by decide) rfl (Nat.le_of_ble_eq_true rfl) dX7_ofPart_9 ?_
  refine q_if_ne (tgt := 17) B dX7_ofPart_12 (by decide) (fun h => absurd ((if_neg hr)) h) (fun _ => ?_)
  refine q_iconst (v := -1) B dX7_ofPart_15 rfl ?_
  exact q_iret BM rfl dX7_ofPart_16 ⟨by rw [a_ofPart, if_pos hr], rfl, rfl⟩
set_option maxRecDepth 100000 in
set_option maxHeartbeats 4000000 in
theorem s_ofPart_yes {Sh : q_Sh} {I : q_Mem} {σ : a_A} {o : Nat} (hm : mOk Sh o) {T F : Nat} (hW : a_W T F σ) (hth : I o 0 = nI 0) {w : Int32} {j : Nat} (hj : j < 8) : q_Rt mX7_ofPart 2 [.ref o, .int (nI j), .int w] Sh (q_setA I (o + 1) σ) (some (.int (a_ofPart σ (nI j) w))) (q_setA I (o + 1) σ) := by
  refine q_rt_of (by decide) (Nat.le_of_ble_eq_true rfl) fun Γ BM => ?_
  have B := BM.1
  have hr : nI 0 ≤ nI j ∧ nI j ≤ nI 7 := ⟨(nI_leI (by omega) (by omega)).mpr (Nat.zero_le j), (nI_leI (by omega) (by omega)).mpr (by omega)⟩
  have haj : a_n (nI j) = j := nI_clamp (by omega)
  show q_W Γ mX7_ofPart 0 0 Sh (q_setA I (o + 1) σ) 0 [(0, .ref o), (1, .int (nI j)), (2, .int w)] []
  refine q_aload_n B dX7_ofPart_0 rfl rfl ?_
  refine q_iconst (v := nI 0) B dX7_ofPart_1 rfl ?_
  refine q_putSame B kC_X7 (k := 0) (by decide) rfl kf_X7_32 rfl rfl rfl hm.1 ((congrFun (q_setA_ne (by omega)) _).trans hth) dX7_ofPart_2 ?_
  refine q_iload_n B dX7_ofPart_5 rfl rfl ?_
  refine q_iconst (v := nI 0) B dX7_ofPart_6 rfl ?_
  refine q_bipush (v := nI 7) B dX7_ofPart_7 rfl ?_
  refine q_rtS B s_in kv_yX7_in kt_yX7_in km_X7_94 rfl (by decide) rfl (Nat.le_of_ble_eq_true rfl) dX7_ofPart_9 ?_
  refine q_if_ne (tgt := 17) B dX7_ofPart_12 (by decide) (fun _ => ?_) (fun h => absurd h ((by rw [if_pos hr]; decide)))
  refine q_iload_n B dX7_ofPart_17 rfl rfl ?_
  
  by_cases h0 : w = nI 0
  · subst h0
    refine q_tableIn (off := 30) (tgt := 48) B dX7_ofPart_18 (by decide) (by decide) (by decide) (by decide) ?_
    refine q_aload_n B dX7_ofPart_48 rfl rfl ?_
    refine q_getR B kC_X7 (k := 1) (by decide) rfl kf_X7_7 hm.1 (mR_s hm) dX7_ofPart_49 ?_
    refine q_iconst (v := nI 3) B dX7_ofPart_52 rfl ?_
    refine q_iload_n B dX7_ofPart_53 rfl rfl ?_
    refine q_iadd B dX7_ofPart_54 ?_
    refine q_ialdS (n := 3 + j) B (mA_s hm) (by simp only [nI_add, q_nI_mul]) (by omega) (by decide) dX7_ofPart_55 ?_
    exact q_iret BM rfl dX7_ofPart_56 ⟨by rw [a_ofPart, if_neg (not_not_intro hr)]; rw [if_pos rfl, haj], rfl, rfl⟩
  by_cases h1 : w = nI 1
  · subst h1
    refine q_tableIn (off := 39) (tgt := 57) B dX7_ofPart_18 (by decide) (by decide) (by decide) (by decide) ?_
    refine q_aload_n B dX7_ofPart_57 rfl rfl ?_
    refine q_iload_n B dX7_ofPart_58 rfl rfl ?_
    refine q_rtV B (s_brokenOnes hm hW) kv_yX7_brokenOnes ki_yX7_brokenOnes ks_yX7_brokenOnes km_X7_132 rfl (ci := 7) rfl rfl hm.1 (by decide) rfl (Nat.le_of_ble_eq_true rfl) dX7_ofPart_59 ?_
    exact q_iret BM rfl dX7_ofPart_62 ⟨by rw [a_ofPart, if_neg (not_not_intro hr)]; rw [if_neg (by decide), if_pos rfl], rfl, rfl⟩
  by_cases h2 : w = nI 2
  · subst h2
    refine q_tableIn (off := 45) (tgt := 63) B dX7_ofPart_18 (by decide) (by decide) (by decide) (by decide) ?_
    refine q_aload_n B dX7_ofPart_63 rfl rfl ?_
    refine q_getR B kC_X7 (k := 1) (by decide) rfl kf_X7_7 hm.1 (mR_s hm) dX7_ofPart_64 ?_
    refine q_bipush (v := nI 11) B dX7_ofPart_67 rfl ?_
    refine q_iload_n B dX7_ofPart_69 rfl rfl ?_
    refine q_iadd B dX7_ofPart_70 ?_
    refine q_ialdS (n := 11 + j) B (mA_s hm) (by simp only [nI_add, q_nI_mul]) (by omega) (by decide) dX7_ofPart_71 ?_
    exact q_iret BM rfl dX7_ofPart_72 ⟨by rw [a_ofPart, if_neg (not_not_intro hr)]; rw [if_neg (by decide), if_neg (by decide), if_pos rfl, haj], rfl, rfl⟩
  by_cases h3 : w = nI 3
  · subst h3
    refine q_tableIn (off := 55) (tgt := 73) B dX7_ofPart_18 (by decide) (by decide) (by decide) (by decide) ?_
    refine q_aload_n B dX7_ofPart_73 rfl rfl ?_
    refine q_getR B kC_X7 (k := 1) (by decide) rfl kf_X7_7 hm.1 (mR_s hm) dX7_ofPart_74 ?_
    refine q_bipush (v := nI 19) B dX7_ofPart_77 rfl ?_
    refine q_iload_n B dX7_ofPart_79 rfl rfl ?_
    refine q_iadd B dX7_ofPart_80 ?_
    refine q_ialdS (n := 19 + j) B (mA_s hm) (by simp only [nI_add, q_nI_mul]) (by omega) (by decide) dX7_ofPart_81 ?_
    exact q_iret BM rfl dX7_ofPart_82 ⟨by rw [a_ofPart, if_neg (not_not_intro hr)]; rw [if_neg (by decide), if_neg (by decide), if_neg (by decide), if_pos rfl, haj], rfl, rfl⟩
  refine q_tableOut (tgt := 83) B dX7_ofPart_18 (a_tout (lo := 0) (hi := 3) (fun j h1 h2 => by rcases (show j = 0 ∨ j = 1 ∨ j = 2 ∨ j = 3 by omega) with rfl | rfl | rfl | rfl <;> assumption) (by decide)) (by decide) ?_
  refine q_bipush (v := -2) B dX7_ofPart_83 rfl ?_
  exact q_iret BM rfl dX7_ofPart_85 ⟨by rw [a_ofPart, if_neg (not_not_intro hr)]; rw [if_neg h0, if_neg h1, if_neg h2, if_neg h3], rfl, rfl⟩
set_option maxRecDepth 100000 in
set_option maxHeartbeats 4000000 in
theorem s_count {Sh : q_Sh} {I : q_Mem} {σ : a_A} {o : Nat} (hm : mOk Sh o) {T F : Nat} (hW : a_W T F σ) (h0 : I o 0 = nI 0) {w : Int32} : q_Rt mX7_count 2 [.ref o, .int w] Sh (q_setA I (o + 1) σ) (some (.int (a_count (I o) σ w))) (q_setA I (o + 1) σ) := by
  refine q_rt_of (by decide) (Nat.le_of_ble_eq_true rfl) fun Γ BM => ?_
  have B := BM.1
  show q_W Γ mX7_count 0 0 Sh (q_setA I (o + 1) σ) 0 [(0, .ref o), (1, .int w)] []
  refine q_aload_n B dX7_count_0 rfl rfl ?_
  refine q_iconst (v := nI 0) B dX7_count_1 rfl ?_
  refine q_putSame B kC_X7 (k := 0) (by decide) rfl kf_X7_32 rfl rfl rfl hm.1 ((congrFun (q_setA_ne (by omega)) _).trans h0) dX7_count_2 ?_
  refine q_iload_n B dX7_count_5 rfl rfl ?_
  refine q_bipush (v := nI 8) B dX7_count_6 rfl ?_
  refine q_icmp_eq (tgt := 17) B dX7_count_8 (by decide) (fun c_8 => ?_) (fun c_8 => ?_)
  · skip
    refine q_iload_n B dX7_count_17 rfl rfl ?_
    refine q_bipush (v := nI 8) B dX7_count_18 rfl ?_
    refine q_icmp_ne (tgt := 30) B dX7_count_20 (by decide) (fun c_20 => ?_) (fun c_20 => ?_)
    · skip
      refine q_aload_n B dX7_count_30 rfl rfl ?_
      refine q_getIS B (by omega) kC_X7 (k := 4) (by decide) rfl kf_X7_36 hm.1 dX7_count_31 ?_
      exact q_iret BM rfl dX7_count_34 ⟨by rw [a_count]; first | (rw [if_pos c_20]; done) | exact absurd c_8 c_20 | (rw [if_neg c_20, if_pos c_14]; done), rfl, rfl⟩
    · skip
      refine q_aload_n B dX7_count_23 rfl rfl ?_
      refine q_getIS B (by omega) kC_X7 (k := 8) (by decide) rfl kf_X7_135 hm.1 dX7_count_24 ?_
      refine q_goto (tgt := 34) B dX7_count_27 (by decide) ?_
      exact q_iret BM rfl dX7_count_34 ⟨by rw [a_count]; first | (rw [if_pos c_20]; done) | exact absurd c_8 c_20 | (rw [if_neg c_20, if_pos c_14]; done), rfl, rfl⟩
  · skip
    refine q_iload_n B dX7_count_11 rfl rfl ?_
    refine q_bipush (v := nI 9) B dX7_count_12 rfl ?_
    refine q_icmp_ne (tgt := 35) B dX7_count_14 (by decide) (fun c_14 => ?_) (fun c_14 => ?_)
    · skip
      refine q_iload_n B dX7_count_35 rfl rfl ?_
      refine q_iconst (v := nI 0) B dX7_count_36 rfl ?_
      refine q_iconst (v := nI 2) B dX7_count_37 rfl ?_
      refine q_rtS B s_in kv_yX7_in kt_yX7_in km_X7_94 rfl (by decide) rfl (Nat.le_of_ble_eq_true rfl) dX7_count_38 ?_
      refine q_if_eq (tgt := 53) B dX7_count_41 (by decide) (fun c_41 => ?_) (fun c_41 => ?_)
      · skip
        have h41 := a_b0 c_41
        refine q_iload_n B dX7_count_53 rfl rfl ?_
        refine q_iconst (v := nI 3) B dX7_count_54 rfl ?_
        refine q_bipush (v := nI 7) B dX7_count_55 rfl ?_
        refine q_rtS B s_in kv_yX7_in kt_yX7_in km_X7_94 rfl (by decide) rfl (Nat.le_of_ble_eq_true rfl) dX7_count_57 ?_
        refine q_if_eq (tgt := 73) B dX7_count_60 (by decide) (fun c_60 => ?_) (fun c_60 => ?_)
        · skip
          have h60 := a_b0 c_60
          refine q_bipush (v := -2) B dX7_count_73 rfl ?_
          exact q_iret BM rfl dX7_count_75 ⟨by rw [a_count, if_neg c_8, if_neg c_14]; first | (rw [if_pos h41, hax]; done) | (rw [if_neg h41, if_pos h60]; done) | (rw [if_neg h41, if_neg h60]; done), rfl, rfl⟩
        · skip
          have h60 := a_b1 c_60
          refine q_aload_n B dX7_count_63 rfl rfl ?_
          refine q_iload_n B dX7_count_64 rfl rfl ?_
          refine q_iconst (v := nI 3) B dX7_count_65 rfl ?_
          refine q_isub B dX7_count_66 ?_
          refine q_rtV B (s_withHowW hm hW) kv_yX7_withHow ki_yX7_withHow ks_yX7_withHow km_X7_88 rfl (ci := 7) rfl rfl hm.1 (by decide) rfl (Nat.le_of_ble_eq_true rfl) dX7_count_67 ?_
          refine q_goto (tgt := 75) B dX7_count_70 (by decide) ?_
          exact q_iret BM rfl dX7_count_75 ⟨by rw [a_count, if_neg c_8, if_neg c_14]; first | (rw [if_pos h41, hax]; done) | (rw [if_neg h41, if_pos h60]; done) | (rw [if_neg h41, if_neg h60]; done), rfl, rfl⟩
      · skip
        have h41 := a_b1 c_41
        obtain ⟨x, hx, ex⟩ := a_in06 rfl rfl (by decide) h41
        have hax : a_n w = x := by rw [ex]; exact nI_clamp (by omega)
        refine q_aload_n B dX7_count_44 rfl rfl ?_
        refine q_getR B kC_X7 (k := 1) (by decide) rfl kf_X7_7 hm.1 (mR_s hm) dX7_count_45 ?_
        refine q_iload_n B dX7_count_48 rfl rfl ?_
        refine q_top ex ?_
        refine q_ialdS (n := x) B (mA_s hm) rfl (by omega) (by decide) dX7_count_49 ?_
        refine q_goto (tgt := 75) B dX7_count_50 (by decide) ?_
        exact q_iret BM rfl dX7_count_75 ⟨by rw [a_count, if_neg c_8, if_neg c_14]; first | (rw [if_pos h41, hax]; done) | (rw [if_neg h41, if_pos h60]; done) | (rw [if_neg h41, if_neg h60]; done), rfl, rfl⟩
    · skip
      refine q_iload_n B dX7_count_17 rfl rfl ?_
      refine q_bipush (v := nI 8) B dX7_count_18 rfl ?_
      refine q_icmp_ne (tgt := 30) B dX7_count_20 (by decide) (fun c_20 => ?_) (fun c_20 => ?_)
      · skip
        refine q_aload_n B dX7_count_30 rfl rfl ?_
        refine q_getIS B (by omega) kC_X7 (k := 4) (by decide) rfl kf_X7_36 hm.1 dX7_count_31 ?_
        exact q_iret BM rfl dX7_count_34 ⟨by rw [a_count]; first | (rw [if_pos c_20]; done) | exact absurd c_8 c_20 | (rw [if_neg c_20, if_pos c_14]; done), rfl, rfl⟩
      · skip
        refine q_aload_n B dX7_count_23 rfl rfl ?_
        refine q_getIS B (by omega) kC_X7 (k := 8) (by decide) rfl kf_X7_135 hm.1 dX7_count_24 ?_
        refine q_goto (tgt := 34) B dX7_count_27 (by decide) ?_
        exact q_iret BM rfl dX7_count_34 ⟨by rw [a_count]; first | (rw [if_pos c_20]; done) | exact absurd c_8 c_20 | (rw [if_neg c_20, if_pos c_14]; done), rfl, rfl⟩
