set_option maxRecDepth 100000 in
set_option maxHeartbeats 4000000 in
theorem s_X6_carryOrder_T {Sh : q_Sh} {I : q_Mem} {d len a : Nat} {σ P : a_A} {D S N X : Int32} (hc : dOk Sh d) (hR : Rs (d + 1) I σ) (hG : Pd (d + 427) I P len a (nI 43) D S N X) : q_Rp mX6_carryOrder 6 [.ref d] Sh (I) (fun w I2 => Cg (d + 1) I (a_refT σ D S N X) (nI (a_T σ)) (a_comes σ D S N X) w I2) := by
  refine q_rp_of (by decide) (Nat.le_of_ble_eq_true rfl) fun Γ BM => ?_
  have B := BM.1
  show q_W Γ mX6_carryOrder 0 0 Sh (I) 0 [(0, .ref d)] []
  refine q_aload_n B dX6_carryOrder_0 rfl rfl ?_
  refine q_getR B kC_X6 (k := 4) (by decide) rfl kf_X6_33 hc.1 (dpd hc) dX6_carryOrder_1 ?_
  refine q_getI2 B kC_X2 (k := 2) (by decide) rfl kf_X6_223 (dPd hc) hG.2.2.1 dX6_carryOrder_4 ?_
  
  refine q_lookup (off := 33) (tgt := 40) B dX6_carryOrder_7 (by decide) (by decide) (by decide) ?_
  refine q_aload_n B dX6_carryOrder_40 rfl rfl ?_
  refine q_getR B kC_X6 (k := 0) (by decide) rfl kf_X6_10 hc.1 (dn hc) dX6_carryOrder_41 ?_
  refine q_aload_n B dX6_carryOrder_44 rfl rfl ?_
  refine q_getR B kC_X6 (k := 4) (by decide) rfl kf_X6_33 hc.1 (dpd hc) dX6_carryOrder_45 ?_
  refine q_getI2 B kC_X2 (k := 3) (by decide) rfl kf_X6_226 (dPd hc) hG.2.2.2.1 dX6_carryOrder_48 ?_
  refine q_aload_n B dX6_carryOrder_51 rfl rfl ?_
  refine q_getR B kC_X6 (k := 4) (by decide) rfl kf_X6_33 hc.1 (dpd hc) dX6_carryOrder_52 ?_
  refine q_getI2 B kC_X2 (k := 4) (by decide) rfl kf_X6_229 (dPd hc) hG.2.2.2.2.1 dX6_carryOrder_55 ?_
  refine q_aload_n B dX6_carryOrder_58 rfl rfl ?_
  refine q_getR B kC_X6 (k := 4) (by decide) rfl kf_X6_33 hc.1 (dpd hc) dX6_carryOrder_59 ?_
  refine q_getI2 B kC_X2 (k := 5) (by decide) rfl kf_X6_232 (dPd hc) hG.2.2.2.2.2.1 dX6_carryOrder_62 ?_
  refine q_aload_n B dX6_carryOrder_65 rfl rfl ?_
  refine q_getR B kC_X6 (k := 4) (by decide) rfl kf_X6_33 hc.1 (dpd hc) dX6_carryOrder_66 ?_
  refine q_getI2 B kC_X2 (k := 6) (by decide) rfl kf_X6_235 (dPd hc) hG.2.2.2.2.2.2 dX6_carryOrder_69 ?_
  refine q_rpV B (s_X0_addThing (dN hc) hR) kv_yX0_addThing ki_yX0_addThing ks_yX0_addThing km_X6_41 rfl (ci := 0) rfl rfl (dN hc).1 (by decide) rfl (Nat.le_of_ble_eq_true rfl) dX6_carryOrder_72 (fun w1 I2 hx => ?_)
  obtain ⟨v, rfl, hxx⟩ := hx
  have hx := (show Cg _ _ _ _ _ _ _ from ⟨v, rfl, hxx⟩)
  exact q_iret BM rfl dX6_carryOrder_75 ⟨rfl, hx⟩
set_option maxRecDepth 100000 in
set_option maxHeartbeats 4000000 in
theorem s_X6_carryOrder_F {Sh : q_Sh} {I : q_Mem} {d len a : Nat} {σ P : a_A} {D S N X : Int32} (hc : dOk Sh d) (hR : Rs (d + 1) I σ) (hG : Pd (d + 427) I P len a (nI 102) D S N X) : q_Rp mX6_carryOrder 6 [.ref d] Sh (I) (fun w I2 => Cg (d + 1) I (a_refF σ S X) (nI (a_F σ)) (a_comesF σ S X) w I2) := by
  refine q_rp_of (by decide) (Nat.le_of_ble_eq_true rfl) fun Γ BM => ?_
  have B := BM.1
  show q_W Γ mX6_carryOrder 0 0 Sh (I) 0 [(0, .ref d)] []
  refine q_aload_n B dX6_carryOrder_0 rfl rfl ?_
  refine q_getR B kC_X6 (k := 4) (by decide) rfl kf_X6_33 hc.1 (dpd hc) dX6_carryOrder_1 ?_
  refine q_getI2 B kC_X2 (k := 2) (by decide) rfl kf_X6_223 (dPd hc) hG.2.2.1 dX6_carryOrder_4 ?_
  
  refine q_lookup (off := 69) (tgt := 76) B dX6_carryOrder_7 (by decide) (by decide) (by decide) ?_
  refine q_aload_n B dX6_carryOrder_76 rfl rfl ?_
  refine q_getR B kC_X6 (k := 0) (by decide) rfl kf_X6_10 hc.1 (dn hc) dX6_carryOrder_77 ?_
  refine q_aload_n B dX6_carryOrder_80 rfl rfl ?_
  refine q_getR B kC_X6 (k := 4) (by decide) rfl kf_X6_33 hc.1 (dpd hc) dX6_carryOrder_81 ?_
  refine q_getI2 B kC_X2 (k := 4) (by decide) rfl kf_X6_229 (dPd hc) hG.2.2.2.2.1 dX6_carryOrder_84 ?_
  refine q_aload_n B dX6_carryOrder_87 rfl rfl ?_
  refine q_getR B kC_X6 (k := 4) (by decide) rfl kf_X6_33 hc.1 (dpd hc) dX6_carryOrder_88 ?_
  refine q_getI2 B kC_X2 (k := 6) (by decide) rfl kf_X6_235 (dPd hc) hG.2.2.2.2.2.2 dX6_carryOrder_91 ?_
  refine q_rpV B (s_X0_addFixer (dN hc) hR) kv_yX0_addFixer ki_yX0_addFixer ks_yX0_addFixer km_X6_49 rfl (ci := 0) rfl rfl (dN hc).1 (by decide) rfl (Nat.le_of_ble_eq_true rfl) dX6_carryOrder_94 (fun w1 I2 hx => ?_)
  obtain ⟨v, rfl, hxx⟩ := hx
  have hx := (show Cg _ _ _ _ _ _ _ from ⟨v, rfl, hxx⟩)
  exact q_iret BM rfl dX6_carryOrder_97 ⟨rfl, hx⟩
set_option maxRecDepth 100000 in
set_option maxHeartbeats 4000000 in
theorem s_X6_carryOrder_D {Sh : q_Sh} {I : q_Mem} {d len a : Nat} {σ P : a_A} {D S N X : Int32} (hc : dOk Sh d) (hR : Rs (d + 1) I σ) (hG : Pd (d + 427) I P len a (nI 100) D S N X) {j : Nat} (hj : j < 8) (hD : D = nI j) : q_Rp mX6_carryOrder 6 [.ref d] Sh (I) (fun w I2 => Cg (d + 1) I (a_refD (nI j) N) (σ (3 + j)) (upd σ (3 + j) N) w I2) := by
  refine q_rp_of (by decide) (Nat.le_of_ble_eq_true rfl) fun Γ BM => ?_
  have B := BM.1
  subst hD
  show q_W Γ mX6_carryOrder 0 0 Sh (I) 0 [(0, .ref d)] []
  refine q_aload_n B dX6_carryOrder_0 rfl rfl ?_
  refine q_getR B kC_X6 (k := 4) (by decide) rfl kf_X6_33 hc.1 (dpd hc) dX6_carryOrder_1 ?_
  refine q_getI2 B kC_X2 (k := 2) (by decide) rfl kf_X6_223 (dPd hc) hG.2.2.1 dX6_carryOrder_4 ?_
  
  refine q_lookup (off := 91) (tgt := 98) B dX6_carryOrder_7 (by decide) (by decide) (by decide) ?_
  refine q_aload_n B dX6_carryOrder_98 rfl rfl ?_
  refine q_getR B kC_X6 (k := 0) (by decide) rfl kf_X6_10 hc.1 (dn hc) dX6_carryOrder_99 ?_
  refine q_aload_n B dX6_carryOrder_102 rfl rfl ?_
  refine q_getR B kC_X6 (k := 4) (by decide) rfl kf_X6_33 hc.1 (dpd hc) dX6_carryOrder_103 ?_
  refine q_getI2 B kC_X2 (k := 3) (by decide) rfl kf_X6_226 (dPd hc) hG.2.2.2.1 dX6_carryOrder_106 ?_
  refine q_aload_n B dX6_carryOrder_109 rfl rfl ?_
  refine q_getR B kC_X6 (k := 4) (by decide) rfl kf_X6_33 hc.1 (dpd hc) dX6_carryOrder_110 ?_
  refine q_getI2 B kC_X2 (k := 5) (by decide) rfl kf_X6_232 (dPd hc) hG.2.2.2.2.2.1 dX6_carryOrder_113 ?_
  refine q_rpV B (s_X0_fillDrawer (dN hc) hR hj) kv_yX0_fillDrawer ki_yX0_fillDrawer ks_yX0_fillDrawer km_X6_53 rfl (ci := 0) rfl rfl (dN hc).1 (by decide) rfl (Nat.le_of_ble_eq_true rfl) dX6_carryOrder_116 (fun w1 I2 hx => ?_)
  obtain ⟨v, rfl, hxx⟩ := hx
  have hx := (show Cg _ _ _ _ _ _ _ from ⟨v, rfl, hxx⟩)
  exact q_iret BM rfl dX6_carryOrder_119 ⟨rfl, hx⟩
set_option maxRecDepth 100000 in
set_option maxHeartbeats 4000000 in
theorem s_X6_carryOrder_P {Sh : q_Sh} {I : q_Mem} {d len a : Nat} {σ P : a_A} {D S N X : Int32} (hc : dOk Sh d) (hR : Rs (d + 1) I σ) (hG : Pd (d + 427) I P len a (nI 116) D S N X) : q_Rp mX6_carryOrder 6 [.ref d] Sh (I) (fun w I2 => Cg (d + 1) I (a_refP σ N) (a_how (a_minutes (a_n N) σ) (nI 2) - a_how σ (nI 2)) (a_minutes (a_n N) σ) w I2) := by
  refine q_rp_of (by decide) (Nat.le_of_ble_eq_true rfl) fun Γ BM => ?_
  have B := BM.1
  show q_W Γ mX6_carryOrder 0 0 Sh (I) 0 [(0, .ref d)] []
  refine q_aload_n B dX6_carryOrder_0 rfl rfl ?_
  refine q_getR B kC_X6 (k := 4) (by decide) rfl kf_X6_33 hc.1 (dpd hc) dX6_carryOrder_1 ?_
  refine q_getI2 B kC_X2 (k := 2) (by decide) rfl kf_X6_223 (dPd hc) hG.2.2.1 dX6_carryOrder_4 ?_
  
  refine q_lookup (off := 113) (tgt := 120) B dX6_carryOrder_7 (by decide) (by decide) (by decide) ?_
  refine q_aload_n B dX6_carryOrder_120 rfl rfl ?_
  refine q_getR B kC_X6 (k := 0) (by decide) rfl kf_X6_10 hc.1 (dn hc) dX6_carryOrder_121 ?_
  refine q_aload_n B dX6_carryOrder_124 rfl rfl ?_
  refine q_getR B kC_X6 (k := 4) (by decide) rfl kf_X6_33 hc.1 (dpd hc) dX6_carryOrder_125 ?_
  refine q_getI2 B kC_X2 (k := 5) (by decide) rfl kf_X6_232 (dPd hc) hG.2.2.2.2.2.1 dX6_carryOrder_128 ?_
  refine q_rpV B (s_X0_letPassC (dN hc) hR) kv_yX0_letPass ki_yX0_letPass ks_yX0_letPass km_X6_59 rfl (ci := 0) rfl rfl (dN hc).1 (by decide) rfl (Nat.le_of_ble_eq_true rfl) dX6_carryOrder_131 (fun w1 I2 hx => ?_)
  obtain ⟨v, rfl, hxx⟩ := hx
  have hx := (show Cg _ _ _ _ _ _ _ from ⟨v, rfl, hxx⟩)
  exact q_iret BM rfl dX6_carryOrder_134 ⟨rfl, hx⟩
set_option maxRecDepth 100000 in
set_option maxHeartbeats 4000000 in
theorem s_X6_wipe {Sh : q_Sh} {I : q_Mem} {d len : Nat} (hc : dOk Sh d) (hl : I (d + 427) 0 = nI len) : q_Rt mX6_wipe 0 [.ref d] Sh (I) (some (.int (nI len))) (q_setA I (d + 427) (upd (I (d + 427)) 0 0)) := by
  refine q_rt_of (by decide) (Nat.le_of_ble_eq_true rfl) fun Γ BM => ?_
  have B := BM.1
  show q_W Γ mX6_wipe 0 0 Sh (I) 0 [(0, .ref d)] []
  refine q_aload_n B dX6_wipe_0 rfl rfl ?_
  refine q_getR B kC_X6 (k := 4) (by decide) rfl kf_X6_33 hc.1 (dpd hc) dX6_wipe_1 ?_
  refine q_getI2 B kC_X2 (k := 0) (by decide) rfl kf_X6_151 (dPd hc) hl dX6_wipe_4 ?_
  refine q_istore_n B dX6_wipe_7 rfl (Nat.le_of_ble_eq_true rfl) rfl ?_
  refine q_aload_n B dX6_wipe_8 rfl rfl ?_
  refine q_getR B kC_X6 (k := 4) (by decide) rfl kf_X6_33 hc.1 (dpd hc) dX6_wipe_9 ?_
  refine q_iconst (v := 0) B dX6_wipe_12 rfl ?_
  refine q_putI2 B kC_X2 (k := 0) (by decide) rfl kf_X6_151 rfl rfl rfl (dPd hc) dX6_wipe_13 ?_
  refine q_iload_n B dX6_wipe_16 rfl rfl ?_
  exact q_iret BM rfl dX6_wipe_17 ⟨rfl, rfl, rfl⟩
