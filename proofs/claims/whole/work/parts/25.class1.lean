/-! the class: a Cafe at b, its rows b+1, b+2, b+3, its things from b+4, fixers from b+34, parts from b+39 on -/
def cOk (Sh : q_Sh) (b : Nat) : Prop :=
  q_is Sh b 0 ∧ (Sh.2.2 b 3 = some (b + 1) ∧ q_ar Sh (b + 1) 3 30) ∧ (Sh.2.2 b 4 = some (b + 2) ∧ q_ar Sh (b + 2) 4 5) ∧ (Sh.2.2 b 5 = some (b + 3) ∧ q_ar Sh (b + 3) 5 8) ∧
  (∀ i, i < 30 → Sh.2.2 (b + 1) i = some (b + 4 + i) ∧ q_is Sh (b + 4 + i) 5) ∧ (∀ i, i < 5 → Sh.2.2 (b + 2) i = some (b + 34 + i) ∧ q_is Sh (b + 34 + i) 1) ∧ (∀ i, i < 8 → Sh.2.2 (b + 3) i = some (b + 39 + i) ∧ q_is Sh (b + 39 + i) 3)
theorem cR1 {Sh : q_Sh} {b : Nat} (h : cOk Sh b) : Sh.2.2 b 3 = some (b + 1) := h.2.1.1
theorem cA1 {Sh : q_Sh} {b : Nat} (h : cOk Sh b) : q_ar Sh (b + 1) 3 30 := h.2.1.2
theorem cR2 {Sh : q_Sh} {b : Nat} (h : cOk Sh b) : Sh.2.2 b 4 = some (b + 2) := h.2.2.1.1
theorem cA2 {Sh : q_Sh} {b : Nat} (h : cOk Sh b) : q_ar Sh (b + 2) 4 5 := h.2.2.1.2
theorem cR3 {Sh : q_Sh} {b : Nat} (h : cOk Sh b) : Sh.2.2 b 5 = some (b + 3) := h.2.2.2.1.1
theorem cA3 {Sh : q_Sh} {b : Nat} (h : cOk Sh b) : q_ar Sh (b + 3) 5 8 := h.2.2.2.1.2
theorem cT {Sh : q_Sh} {b i : Nat} (h : cOk Sh b) (hi : i < 30) : q_is Sh (b + 4 + i) 5 := (h.2.2.2.2.1 i hi).2
theorem cF {Sh : q_Sh} {b i : Nat} (h : cOk Sh b) (hi : i < 5) : q_is Sh (b + 34 + i) 1 := (h.2.2.2.2.2.1 i hi).2
theorem cP {Sh : q_Sh} {b i : Nat} (h : cOk Sh b) (hi : i < 8) : q_is Sh (b + 39 + i) 3 := (h.2.2.2.2.2.2 i hi).2
theorem cp8 (g ob : a_A) : upd (upd (upd (upd (upd (upd (upd (upd ob 0 (g 0)) 1 (g 1)) 2 (g 2)) 3 (g 3)) 4 (g 4)) 5 (g 5)) 6 (g 6)) 7 (g 7) = a_cp 8 g ob := by
  funext k
  rcases k with _ | _ | _ | _ | _ | _ | _ | _ | k
  all_goals rfl
theorem cp6 (g ob : a_A) : upd (upd (upd (upd (upd (upd ob 0 (g 0)) 1 (g 1)) 2 (g 2)) 3 (g 3)) 4 (g 4)) 5 (g 5) = a_cp 6 g ob := by
  funext k
  rcases k with _ | _ | _ | _ | _ | _ | k
  all_goals rfl
theorem cp3 (g ob : a_A) : upd (upd (upd ob 0 (g 0)) 1 (g 1)) 2 (g 2) = a_cp 3 g ob := by
  funext k
  rcases k with _ | _ | _ | k
  all_goals rfl
set_option maxRecDepth 100000 in
set_option maxHeartbeats 4000000 in
theorem s_X5_come {Sh : q_Sh} {I : q_Mem} {l : Nat} {ob : a_A} (hl : q_is Sh l 5) {k m p t : Int32} : q_Rt mX5_come 0 [.ref l, .int k, .int m, .int p, .int t] Sh (q_setA I l ob) (none) (q_setA I l (upd (upd (upd (upd (upd (upd (upd (upd ob 0 (k)) 1 (m)) 2 (p)) 3 (t)) 4 (0)) 5 (-6)) 6 (0)) 7 (0))) := by
  refine q_rt_of (by decide) (Nat.le_of_ble_eq_true rfl) fun Γ BM => ?_
  have B := BM.1
  show q_W Γ mX5_come 0 0 Sh (q_setA I l ob) 0 [(0, .ref l), (1, .int k), (2, .int m), (3, .int p), (4, .int t)] []
  refine q_aload_n B dX5_come_0 rfl rfl ?_
  refine q_iload_n B dX5_come_1 rfl rfl ?_
  refine q_putIo B kC_X5 (k := 0) (by decide) rfl kf_X5_9 rfl rfl rfl hl rfl dX5_come_2 ?_
  refine q_aload_n B dX5_come_5 rfl rfl ?_
  refine q_iload_n B dX5_come_6 rfl rfl ?_
  refine q_putIo B kC_X5 (k := 1) (by decide) rfl kf_X5_15 rfl rfl rfl hl rfl dX5_come_7 ?_
  refine q_aload_n B dX5_come_10 rfl rfl ?_
  refine q_iload_n B dX5_come_11 rfl rfl ?_
  refine q_putIo B kC_X5 (k := 2) (by decide) rfl kf_X5_18 rfl rfl rfl hl rfl dX5_come_12 ?_
  refine q_aload_n B dX5_come_15 rfl rfl ?_
  refine q_iload B dX5_come_16 rfl ?_
  refine q_putIo B kC_X5 (k := 3) (by decide) rfl kf_X5_21 rfl rfl rfl hl rfl dX5_come_18 ?_
  refine q_aload_n B dX5_come_21 rfl rfl ?_
  refine q_iconst (v := 0) B dX5_come_22 rfl ?_
  refine q_putIo B kC_X5 (k := 4) (by decide) rfl kf_X5_24 rfl rfl rfl hl rfl dX5_come_23 ?_
  refine q_aload_n B dX5_come_26 rfl rfl ?_
  refine q_bipush (v := -6) B dX5_come_27 rfl ?_
  refine q_putIo B kC_X5 (k := 5) (by decide) rfl kf_X5_27 rfl rfl rfl hl rfl dX5_come_29 ?_
  refine q_aload_n B dX5_come_32 rfl rfl ?_
  refine q_iconst (v := 0) B dX5_come_33 rfl ?_
  refine q_putIo B kC_X5 (k := 6) (by decide) rfl kf_X5_30 rfl rfl rfl hl rfl dX5_come_34 ?_
  refine q_aload_n B dX5_come_37 rfl rfl ?_
  refine q_iconst (v := 0) B dX5_come_38 rfl ?_
  refine q_putIo B kC_X5 (k := 7) (by decide) rfl kf_X5_33 rfl rfl rfl hl rfl dX5_come_39 ?_
  exact q_vret BM rfl dX5_come_42 ⟨rfl, rfl, rfl⟩
set_option maxRecDepth 100000 in
set_option maxHeartbeats 4000000 in
theorem s_X1_come {Sh : q_Sh} {I : q_Mem} {l : Nat} {ob : a_A} (hl : q_is Sh l 1) {k c : Int32} : q_Rt mX1_come 0 [.ref l, .int k, .int c] Sh (q_setA I l ob) (none) (q_setA I l (upd (upd (upd (upd (upd (upd ob 0 (k)) 1 (c)) 2 (-6)) 3 (0)) 4 (0)) 5 (0))) := by
  refine q_rt_of (by decide) (Nat.le_of_ble_eq_true rfl) fun Γ BM => ?_
  have B := BM.1
  show q_W Γ mX1_come 0 0 Sh (q_setA I l ob) 0 [(0, .ref l), (1, .int k), (2, .int c)] []
  refine q_aload_n B dX1_come_0 rfl rfl ?_
  refine q_iload_n B dX1_come_1 rfl rfl ?_
  refine q_putIo B kC_X1 (k := 0) (by decide) rfl kf_X1_9 rfl rfl rfl hl rfl dX1_come_2 ?_
  refine q_aload_n B dX1_come_5 rfl rfl ?_
  refine q_iload_n B dX1_come_6 rfl rfl ?_
  refine q_putIo B kC_X1 (k := 1) (by decide) rfl kf_X1_15 rfl rfl rfl hl rfl dX1_come_7 ?_
  refine q_aload_n B dX1_come_10 rfl rfl ?_
  refine q_bipush (v := -6) B dX1_come_11 rfl ?_
  refine q_putIo B kC_X1 (k := 2) (by decide) rfl kf_X1_18 rfl rfl rfl hl rfl dX1_come_13 ?_
  refine q_aload_n B dX1_come_16 rfl rfl ?_
  refine q_iconst (v := 0) B dX1_come_17 rfl ?_
  refine q_putIo B kC_X1 (k := 3) (by decide) rfl kf_X1_21 rfl rfl rfl hl rfl dX1_come_18 ?_
  refine q_aload_n B dX1_come_21 rfl rfl ?_
  refine q_iconst (v := 0) B dX1_come_22 rfl ?_
  refine q_putIo B kC_X1 (k := 4) (by decide) rfl kf_X1_24 rfl rfl rfl hl rfl dX1_come_23 ?_
  refine q_aload_n B dX1_come_26 rfl rfl ?_
  refine q_iconst (v := 0) B dX1_come_27 rfl ?_
  refine q_putIo B kC_X1 (k := 5) (by decide) rfl kf_X1_27 rfl rfl rfl hl rfl dX1_come_28 ?_
  exact q_vret BM rfl dX1_come_31 ⟨rfl, rfl, rfl⟩
set_option maxRecDepth 100000 in
set_option maxHeartbeats 4000000 in
theorem s_X5_end {Sh : q_Sh} {I : q_Mem} {l : Nat} {ob : a_A} (hl : q_is Sh l 5) {h : Int32} : q_Rt mX5_end 0 [.ref l, .int h] Sh (q_setA I l ob) (none) (q_setA I l (upd (upd ob 4 (h)) 5 (-6))) := by
  refine q_rt_of (by decide) (Nat.le_of_ble_eq_true rfl) fun Γ BM => ?_
  have B := BM.1
  show q_W Γ mX5_end 0 0 Sh (q_setA I l ob) 0 [(0, .ref l), (1, .int h)] []
  refine q_aload_n B dX5_end_0 rfl rfl ?_
  refine q_iload_n B dX5_end_1 rfl rfl ?_
  refine q_putIo B kC_X5 (k := 4) (by decide) rfl kf_X5_24 rfl rfl rfl hl rfl dX5_end_2 ?_
  refine q_aload_n B dX5_end_5 rfl rfl ?_
  refine q_bipush (v := -6) B dX5_end_6 rfl ?_
  refine q_putIo B kC_X5 (k := 5) (by decide) rfl kf_X5_27 rfl rfl rfl hl rfl dX5_end_8 ?_
  exact q_vret BM rfl dX5_end_11 ⟨rfl, rfl, rfl⟩
set_option maxRecDepth 100000 in
set_option maxHeartbeats 4000000 in
theorem s_X5_copyFrom {Sh : q_Sh} {I : q_Mem} {l : Nat} {ob : a_A} {m : Nat} (hl : q_is Sh l 5) (hm : q_is Sh m 5) (hne : m ≠ l) : q_Rt mX5_copyFrom 0 [.ref l, .ref m] Sh (q_setA I l ob) (none) (q_setA I l (a_cp 8 (I m) ob)) := by
  refine q_rt_of (by decide) (Nat.le_of_ble_eq_true rfl) fun Γ BM => ?_
  have B := BM.1
  show q_W Γ mX5_copyFrom 0 0 Sh (q_setA I l ob) 0 [(0, .ref l), (1, .ref m)] []
  refine q_aload_n B dX5_copyFrom_0 rfl rfl ?_
  refine q_ifnonnull (tgt := 5) B dX5_copyFrom_1 (by decide) ?_
  refine q_aload_n B dX5_copyFrom_5 rfl rfl ?_
  refine q_aload_n B dX5_copyFrom_6 rfl rfl ?_
  refine q_getIS B hne kC_X5 (k := 0) (by decide) rfl kf_X5_9 hm dX5_copyFrom_7 ?_
  refine q_putIo B kC_X5 (k := 0) (by decide) rfl kf_X5_9 rfl rfl rfl hl rfl dX5_copyFrom_10 ?_
  refine q_aload_n B dX5_copyFrom_13 rfl rfl ?_
  refine q_aload_n B dX5_copyFrom_14 rfl rfl ?_
  refine q_getIS B hne kC_X5 (k := 1) (by decide) rfl kf_X5_15 hm dX5_copyFrom_15 ?_
  refine q_putIo B kC_X5 (k := 1) (by decide) rfl kf_X5_15 rfl rfl rfl hl rfl dX5_copyFrom_18 ?_
  refine q_aload_n B dX5_copyFrom_21 rfl rfl ?_
  refine q_aload_n B dX5_copyFrom_22 rfl rfl ?_
  refine q_getIS B hne kC_X5 (k := 2) (by decide) rfl kf_X5_18 hm dX5_copyFrom_23 ?_
  refine q_putIo B kC_X5 (k := 2) (by decide) rfl kf_X5_18 rfl rfl rfl hl rfl dX5_copyFrom_26 ?_
  refine q_aload_n B dX5_copyFrom_29 rfl rfl ?_
  refine q_aload_n B dX5_copyFrom_30 rfl rfl ?_
  refine q_getIS B hne kC_X5 (k := 3) (by decide) rfl kf_X5_21 hm dX5_copyFrom_31 ?_
  refine q_putIo B kC_X5 (k := 3) (by decide) rfl kf_X5_21 rfl rfl rfl hl rfl dX5_copyFrom_34 ?_
  refine q_aload_n B dX5_copyFrom_37 rfl rfl ?_
  refine q_aload_n B dX5_copyFrom_38 rfl rfl ?_
  refine q_getIS B hne kC_X5 (k := 4) (by decide) rfl kf_X5_24 hm dX5_copyFrom_39 ?_
  refine q_putIo B kC_X5 (k := 4) (by decide) rfl kf_X5_24 rfl rfl rfl hl rfl dX5_copyFrom_42 ?_
  refine q_aload_n B dX5_copyFrom_45 rfl rfl ?_
  refine q_aload_n B dX5_copyFrom_46 rfl rfl ?_
  refine q_getIS B hne kC_X5 (k := 5) (by decide) rfl kf_X5_27 hm dX5_copyFrom_47 ?_
  refine q_putIo B kC_X5 (k := 5) (by decide) rfl kf_X5_27 rfl rfl rfl hl rfl dX5_copyFrom_50 ?_
  refine q_aload_n B dX5_copyFrom_53 rfl rfl ?_
  refine q_aload_n B dX5_copyFrom_54 rfl rfl ?_
  refine q_getIS B hne kC_X5 (k := 6) (by decide) rfl kf_X5_30 hm dX5_copyFrom_55 ?_
  refine q_putIo B kC_X5 (k := 6) (by decide) rfl kf_X5_30 rfl rfl rfl hl rfl dX5_copyFrom_58 ?_
  refine q_aload_n B dX5_copyFrom_61 rfl rfl ?_
  refine q_aload_n B dX5_copyFrom_62 rfl rfl ?_
  refine q_getIS B hne kC_X5 (k := 7) (by decide) rfl kf_X5_33 hm dX5_copyFrom_63 ?_
  refine q_putIo B kC_X5 (k := 7) (by decide) rfl kf_X5_33 rfl rfl rfl hl rfl dX5_copyFrom_66 ?_
  exact q_vret BM rfl dX5_copyFrom_69 ⟨rfl, rfl, by rw [← cp8]⟩
set_option maxRecDepth 100000 in
set_option maxHeartbeats 4000000 in
theorem s_X1_copyFrom {Sh : q_Sh} {I : q_Mem} {l : Nat} {ob : a_A} {m : Nat} (hl : q_is Sh l 1) (hm : q_is Sh m 1) (hne : m ≠ l) : q_Rt mX1_copyFrom 0 [.ref l, .ref m] Sh (q_setA I l ob) (none) (q_setA I l (a_cp 6 (I m) ob)) := by
  refine q_rt_of (by decide) (Nat.le_of_ble_eq_true rfl) fun Γ BM => ?_
  have B := BM.1
  show q_W Γ mX1_copyFrom 0 0 Sh (q_setA I l ob) 0 [(0, .ref l), (1, .ref m)] []
  refine q_aload_n B dX1_copyFrom_0 rfl rfl ?_
  refine q_ifnonnull (tgt := 5) B dX1_copyFrom_1 (by decide) ?_
  refine q_aload_n B dX1_copyFrom_5 rfl rfl ?_
  refine q_aload_n B dX1_copyFrom_6 rfl rfl ?_
  refine q_getIS B hne kC_X1 (k := 0) (by decide) rfl kf_X1_9 hm dX1_copyFrom_7 ?_
  refine q_putIo B kC_X1 (k := 0) (by decide) rfl kf_X1_9 rfl rfl rfl hl rfl dX1_copyFrom_10 ?_
  refine q_aload_n B dX1_copyFrom_13 rfl rfl ?_
  refine q_aload_n B dX1_copyFrom_14 rfl rfl ?_
  refine q_getIS B hne kC_X1 (k := 1) (by decide) rfl kf_X1_15 hm dX1_copyFrom_15 ?_
  refine q_putIo B kC_X1 (k := 1) (by decide) rfl kf_X1_15 rfl rfl rfl hl rfl dX1_copyFrom_18 ?_
  refine q_aload_n B dX1_copyFrom_21 rfl rfl ?_
  refine q_aload_n B dX1_copyFrom_22 rfl rfl ?_
  refine q_getIS B hne kC_X1 (k := 2) (by decide) rfl kf_X1_18 hm dX1_copyFrom_23 ?_
  refine q_putIo B kC_X1 (k := 2) (by decide) rfl kf_X1_18 rfl rfl rfl hl rfl dX1_copyFrom_26 ?_
  refine q_aload_n B dX1_copyFrom_29 rfl rfl ?_
  refine q_aload_n B dX1_copyFrom_30 rfl rfl ?_
  refine q_getIS B hne kC_X1 (k := 3) (by decide) rfl kf_X1_21 hm dX1_copyFrom_31 ?_
  refine q_putIo B kC_X1 (k := 3) (by decide) rfl kf_X1_21 rfl rfl rfl hl rfl dX1_copyFrom_34 ?_
  refine q_aload_n B dX1_copyFrom_37 rfl rfl ?_
  refine q_aload_n B dX1_copyFrom_38 rfl rfl ?_
  refine q_getIS B hne kC_X1 (k := 4) (by decide) rfl kf_X1_24 hm dX1_copyFrom_39 ?_
  refine q_putIo B kC_X1 (k := 4) (by decide) rfl kf_X1_24 rfl rfl rfl hl rfl dX1_copyFrom_42 ?_
  refine q_aload_n B dX1_copyFrom_45 rfl rfl ?_
  refine q_aload_n B dX1_copyFrom_46 rfl rfl ?_
  refine q_getIS B hne kC_X1 (k := 5) (by decide) rfl kf_X1_27 hm dX1_copyFrom_47 ?_
  refine q_putIo B kC_X1 (k := 5) (by decide) rfl kf_X1_27 rfl rfl rfl hl rfl dX1_copyFrom_50 ?_
  exact q_vret BM rfl dX1_copyFrom_53 ⟨rfl, rfl, by rw [← cp6]⟩
set_option maxRecDepth 100000 in
set_option maxHeartbeats 4000000 in
theorem s_X3_copyFrom {Sh : q_Sh} {I : q_Mem} {l : Nat} {ob : a_A} {m : Nat} (hl : q_is Sh l 3) (hm : q_is Sh m 3) (hne : m ≠ l) : q_Rt mX3_copyFrom 0 [.ref l, .ref m] Sh (q_setA I l ob) (none) (q_setA I l (a_cp 3 (I m) ob)) := by
  refine q_rt_of (by decide) (Nat.le_of_ble_eq_true rfl) fun Γ BM => ?_
  have B := BM.1
  show q_W Γ mX3_copyFrom 0 0 Sh (q_setA I l ob) 0 [(0, .ref l), (1, .ref m)] []
  refine q_aload_n B dX3_copyFrom_0 rfl rfl ?_
  refine q_ifnonnull (tgt := 5) B dX3_copyFrom_1 (by decide) ?_
  refine q_aload_n B dX3_copyFrom_5 rfl rfl ?_
  refine q_aload_n B dX3_copyFrom_6 rfl rfl ?_
  refine q_getIS B hne kC_X3 (k := 0) (by decide) rfl kf_X3_9 hm dX3_copyFrom_7 ?_
  refine q_putIo B kC_X3 (k := 0) (by decide) rfl kf_X3_9 rfl rfl rfl hl rfl dX3_copyFrom_10 ?_
  refine q_aload_n B dX3_copyFrom_13 rfl rfl ?_
  refine q_aload_n B dX3_copyFrom_14 rfl rfl ?_
  refine q_getIS B hne kC_X3 (k := 1) (by decide) rfl kf_X3_15 hm dX3_copyFrom_15 ?_
  refine q_putIo B kC_X3 (k := 1) (by decide) rfl kf_X3_15 rfl rfl rfl hl rfl dX3_copyFrom_18 ?_
  refine q_aload_n B dX3_copyFrom_21 rfl rfl ?_
  refine q_aload_n B dX3_copyFrom_22 rfl rfl ?_
  refine q_getIS B hne kC_X3 (k := 2) (by decide) rfl kf_X3_18 hm dX3_copyFrom_23 ?_
  refine q_putIo B kC_X3 (k := 2) (by decide) rfl kf_X3_18 rfl rfl rfl hl rfl dX3_copyFrom_26 ?_
  exact q_vret BM rfl dX3_copyFrom_29 ⟨rfl, rfl, by rw [← cp3]⟩
set_option maxRecDepth 100000 in
set_option maxHeartbeats 4000000 in
theorem s_X5_isHere {Sh : q_Sh} {I : q_Mem} {l : Nat} {ob : a_A} (hl : q_is Sh l 5) : q_Rt mX5_isHere 0 [.ref l] Sh (q_setA I l ob) (some (.int (if ob 4 = 0 ∨ ob 4 = nI 1 then 1 else 0))) (q_setA I l ob) := by
  refine q_rt_of (by decide) (Nat.le_of_ble_eq_true rfl) fun Γ BM => ?_
  have B := BM.1
  show q_W Γ mX5_isHere 0 0 Sh (q_setA I l ob) 0 [(0, .ref l)] []
  refine q_join 20 (if ob 4 = 0 ∨ ob 4 = nI 1 then 1 else 0) ?_ (fun j_0 => ?_)
  · skip
    exact q_zret BM rfl (by split <;> simp) dX5_isHere_20 ⟨rfl, rfl, rfl⟩
  · skip
    refine q_aload_n B dX5_isHere_0 rfl rfl ?_
    refine q_getIo B kC_X5 (k := 4) (by decide) rfl kf_X5_24 hl rfl dX5_isHere_1 ?_
    refine q_if_eq (tgt := 15) B dX5_isHere_4 (by decide) (fun c_4 => ?_) (fun c_4 => ?_)
    · skip
      refine q_iconst (v := 1) B dX5_isHere_15 rfl ?_
      refine q_goto (tgt := 20) B dX5_isHere_16 (by decide) ?_
      exact q_top (by first | (rw [if_pos (Or.inl c_4)]; done) | (rw [if_pos (Or.inr c_12)]; done) | (rw [if_neg (fun h => h.elim c_4 c_12)]; done)) j_0
    · skip
      refine q_aload_n B dX5_isHere_7 rfl rfl ?_
      refine q_getIo B kC_X5 (k := 4) (by decide) rfl kf_X5_24 hl rfl dX5_isHere_8 ?_
      refine q_iconst (v := nI 1) B dX5_isHere_11 rfl ?_
      refine q_icmp_ne (tgt := 19) B dX5_isHere_12 (by decide) (fun c_12 => ?_) (fun c_12 => ?_)
      · skip
        refine q_iconst (v := 0) B dX5_isHere_19 rfl ?_
        exact q_top (by first | (rw [if_pos (Or.inl c_4)]; done) | (rw [if_pos (Or.inr c_12)]; done) | (rw [if_neg (fun h => h.elim c_4 c_12)]; done)) j_0
      · skip
        refine q_iconst (v := 1) B dX5_isHere_15 rfl ?_
        refine q_goto (tgt := 20) B dX5_isHere_16 (by decide) ?_
        exact q_top (by first | (rw [if_pos (Or.inl c_4)]; done) | (rw [if_pos (Or.inr c_12)]; done) | (rw [if_neg (fun h => h.elim c_4 c_12)]; done)) j_0
set_option maxRecDepth 100000 in
set_option maxHeartbeats 4000000 in
theorem s_X5_tryTest0 {Sh : q_Sh} {I : q_Mem} {l : Nat} {ob : a_A} (hl : q_is Sh l 5) {x y : Int32} (ht : ob 3 = 0) : q_Rt mX5_tryTest 0 [.ref l, .int x, .int y] Sh (q_setA I l ob) (some (.int 1)) (q_setA I l ob) := by
  refine q_rt_of (by decide) (Nat.le_of_ble_eq_true rfl) fun Γ BM => ?_
  have B := BM.1
  show q_W Γ mX5_tryTest 0 0 Sh (q_setA I l ob) 0 [(0, .ref l), (1, .int x), (2, .int y)] []
  refine q_aload_n B dX5_tryTest_0 rfl rfl ?_
  refine q_getIo B kC_X5 (k := 3) (by decide) rfl kf_X5_21 hl rfl dX5_tryTest_1 ?_
  refine q_if_ne (tgt := 9) B dX5_tryTest_4 (by decide) (fun h => absurd ht h) (fun _ => ?_)
  refine q_iconst (v := 1) B dX5_tryTest_7 rfl ?_
  exact q_zret BM rfl (Or.inr rfl) dX5_tryTest_8 ⟨rfl, rfl, rfl⟩
set_option maxRecDepth 100000 in
set_option maxHeartbeats 4000000 in
theorem s_X5_tryTest1 {Sh : q_Sh} {I : q_Mem} {l : Nat} {ob : a_A} (hl : q_is Sh l 5) {x y : Int32} (ht : ¬ ob 3 = 0) (h3 : ¬ ((x + y) + ob 0) - ((x + y) + ob 0) / nI 3 * nI 3 = 0) : q_Rt mX5_tryTest 0 [.ref l, .int x, .int y] Sh (q_setA I l ob) (some (.int 1)) (q_setA I l (upd ob 3 (ob 3 &&& (ob 3 - 1)))) := by
  refine q_rt_of (by decide) (Nat.le_of_ble_eq_true rfl) fun Γ BM => ?_
  have B := BM.1
  show q_W Γ mX5_tryTest 0 0 Sh (q_setA I l ob) 0 [(0, .ref l), (1, .int x), (2, .int y)] []
  refine q_aload_n B dX5_tryTest_0 rfl rfl ?_
  refine q_getIo B kC_X5 (k := 3) (by decide) rfl kf_X5_21 hl rfl dX5_tryTest_1 ?_
  refine q_if_ne (tgt := 9) B dX5_tryTest_4 (by decide) (fun _ => ?_) (fun h => absurd h ht)
  refine q_iload_n B dX5_tryTest_9 rfl rfl ?_
  refine q_iload_n B dX5_tryTest_10 rfl rfl ?_
  refine q_iadd B dX5_tryTest_11 ?_
  refine q_aload_n B dX5_tryTest_12 rfl rfl ?_
  refine q_getIo B kC_X5 (k := 0) (by decide) rfl kf_X5_9 hl rfl dX5_tryTest_13 ?_
  refine q_iadd B dX5_tryTest_16 ?_
  refine q_iconst (v := nI 3) B dX5_tryTest_17 rfl ?_
  refine q_irem B dX5_tryTest_18 (by decide +kernel) ?_
  refine q_if_eq (tgt := 39) B dX5_tryTest_19 (by decide) (fun h => absurd h h3) (fun _ => ?_)
  refine q_aload_n B dX5_tryTest_22 rfl rfl ?_
  refine q_dup B dX5_tryTest_23 rfl ?_
  refine q_getIo B kC_X5 (k := 3) (by decide) rfl kf_X5_21 hl rfl dX5_tryTest_24 ?_
  refine q_aload_n B dX5_tryTest_27 rfl rfl ?_
  refine q_getIo B kC_X5 (k := 3) (by decide) rfl kf_X5_21 hl rfl dX5_tryTest_28 ?_
  refine q_iconst (v := 1) B dX5_tryTest_31 rfl ?_
  refine q_isub B dX5_tryTest_32 ?_
  refine q_iand B dX5_tryTest_33 ?_
  refine q_putIo B kC_X5 (k := 3) (by decide) rfl kf_X5_21 rfl rfl rfl hl rfl dX5_tryTest_34 ?_
  refine q_iconst (v := 1) B dX5_tryTest_37 rfl ?_
  exact q_zret BM rfl (Or.inr rfl) dX5_tryTest_38 ⟨rfl, rfl, rfl⟩
set_option maxRecDepth 100000 in
set_option maxHeartbeats 4000000 in
theorem s_X5_tryTest2 {Sh : q_Sh} {I : q_Mem} {l : Nat} {ob : a_A} (hl : q_is Sh l 5) {x y : Int32} (ht : ¬ ob 3 = 0) (h3 : ((x + y) + ob 0) - ((x + y) + ob 0) / nI 3 * nI 3 = 0) : q_Rt mX5_tryTest 0 [.ref l, .int x, .int y] Sh (q_setA I l ob) (some (.int (if ob 6 + 1 < nI 3 then 1 else 0))) (q_setA I l (upd (upd ob 1 (ob 1 ||| (nI 1 <<< (ob 0 &&& 31)))) 6 (ob 6 + 1))) := by
  refine q_rt_of (by decide) (Nat.le_of_ble_eq_true rfl) fun Γ BM => ?_
  have B := BM.1
  show q_W Γ mX5_tryTest 0 0 Sh (q_setA I l ob) 0 [(0, .ref l), (1, .int x), (2, .int y)] []
  refine q_aload_n B dX5_tryTest_0 rfl rfl ?_
  refine q_getIo B kC_X5 (k := 3) (by decide) rfl kf_X5_21 hl rfl dX5_tryTest_1 ?_
  refine q_if_ne (tgt := 9) B dX5_tryTest_4 (by decide) (fun _ => ?_) (fun h => absurd h ht)
  refine q_iload_n B dX5_tryTest_9 rfl rfl ?_
  refine q_iload_n B dX5_tryTest_10 rfl rfl ?_
  refine q_iadd B dX5_tryTest_11 ?_
  refine q_aload_n B dX5_tryTest_12 rfl rfl ?_
  refine q_getIo B kC_X5 (k := 0) (by decide) rfl kf_X5_9 hl rfl dX5_tryTest_13 ?_
  refine q_iadd B dX5_tryTest_16 ?_
  refine q_iconst (v := nI 3) B dX5_tryTest_17 rfl ?_
  refine q_irem B dX5_tryTest_18 (by decide +kernel) ?_
  refine q_if_eq (tgt := 39) B dX5_tryTest_19 (by decide) (fun _ => ?_) (fun h => absurd h3 h)
  refine q_aload_n B dX5_tryTest_39 rfl rfl ?_
  refine q_dup B dX5_tryTest_40 rfl ?_
  refine q_getIo B kC_X5 (k := 1) (by decide) rfl kf_X5_15 hl rfl dX5_tryTest_41 ?_
  refine q_iconst (v := nI 1) B dX5_tryTest_44 rfl ?_
  refine q_aload_n B dX5_tryTest_45 rfl rfl ?_
  refine q_getIo B kC_X5 (k := 0) (by decide) rfl kf_X5_9 hl rfl dX5_tryTest_46 ?_
  refine q_ishl B dX5_tryTest_49 ?_
  refine q_ior B dX5_tryTest_50 ?_
  refine q_putIo B kC_X5 (k := 1) (by decide) rfl kf_X5_15 rfl rfl rfl hl rfl dX5_tryTest_51 ?_
  refine q_aload_n B dX5_tryTest_54 rfl rfl ?_
  refine q_dup B dX5_tryTest_55 rfl ?_
  refine q_getIo B kC_X5 (k := 6) (by decide) rfl kf_X5_30 hl (q_upd_ne (by decide)) dX5_tryTest_56 ?_
  refine q_iconst (v := 1) B dX5_tryTest_59 rfl ?_
  refine q_iadd B dX5_tryTest_60 ?_
  refine q_putIo B kC_X5 (k := 6) (by decide) rfl kf_X5_30 rfl rfl rfl hl rfl dX5_tryTest_61 ?_
  refine q_join 77 (if ob 6 + 1 < nI 3 then 1 else 0) ?_ (fun j_64 => ?_)
  · skip
    exact q_zret BM rfl (by split <;> simp) dX5_tryTest_77 ⟨rfl, rfl, rfl⟩
  · skip
    refine q_aload_n B dX5_tryTest_64 rfl rfl ?_
    refine q_getIo B kC_X5 (k := 6) (by decide) rfl kf_X5_30 hl (q_upd_at _ _ _) dX5_tryTest_65 ?_
    refine q_iconst (v := nI 3) B dX5_tryTest_68 rfl ?_
    refine q_icmp_ge (tgt := 76) B dX5_tryTest_69 (by decide) (fun c_69 => ?_) (fun c_69 => ?_)
    · skip
      refine q_iconst (v := 0) B dX5_tryTest_76 rfl ?_
      exact q_top (by first | (rw [if_pos (Int32.not_le.mp c_69)]; done) | (rw [if_neg (Int32.not_lt.mpr c_69)]; done)) j_64
    · skip
      refine q_iconst (v := 1) B dX5_tryTest_72 rfl ?_
      refine q_goto (tgt := 77) B dX5_tryTest_73 (by decide) ?_
      exact q_top (by first | (rw [if_pos (Int32.not_le.mp c_69)]; done) | (rw [if_neg (Int32.not_lt.mpr c_69)]; done)) j_64
set_option maxRecDepth 100000 in
set_option maxHeartbeats 4000000 in
theorem s_X3_takeIn {Sh : q_Sh} {I : q_Mem} {l : Nat} {ob : a_A} (hl : q_is Sh l 3) : q_Rt mX3_takeIn 0 [.ref l] Sh (q_setA I l ob) (some (.int (if ob 0 < nI 99 then 1 else 0))) (q_setA I l (upd (upd ob 2 (ob 2 + 1)) 0 (ob 0 + (if ob 0 < nI 99 then 1 else 0)))) := by
  refine q_rt_of (by decide) (Nat.le_of_ble_eq_true rfl) fun Γ BM => ?_
  have B := BM.1
  show q_W Γ mX3_takeIn 0 0 Sh (q_setA I l ob) 0 [(0, .ref l)] []
  refine q_aload_n B dX3_takeIn_0 rfl rfl ?_
  refine q_dup B dX3_takeIn_1 rfl ?_
  refine q_getIo B kC_X3 (k := 2) (by decide) rfl kf_X3_18 hl rfl dX3_takeIn_2 ?_
  refine q_iconst (v := 1) B dX3_takeIn_5 rfl ?_
  refine q_iadd B dX3_takeIn_6 ?_
  refine q_putIo B kC_X3 (k := 2) (by decide) rfl kf_X3_18 rfl rfl rfl hl rfl dX3_takeIn_7 ?_
  refine q_aload_n B dX3_takeIn_10 rfl rfl ?_
  refine q_getIo B kC_X3 (k := 0) (by decide) rfl kf_X3_9 hl (q_upd_ne (by decide)) dX3_takeIn_11 ?_
  refine q_bipush (v := nI 99) B dX3_takeIn_14 rfl ?_
  refine q_icmp_lt (tgt := 21) B dX3_takeIn_16 (by decide) (fun c_16 => ?_) (fun c_16 => ?_)
  · skip
    refine q_aload_n B dX3_takeIn_21 rfl rfl ?_
    refine q_dup B dX3_takeIn_22 rfl ?_
    refine q_getIo B kC_X3 (k := 0) (by decide) rfl kf_X3_9 hl (q_upd_ne (by decide)) dX3_takeIn_23 ?_
    refine q_iconst (v := 1) B dX3_takeIn_26 rfl ?_
    refine q_iadd B dX3_takeIn_27 ?_
    refine q_putIo B kC_X3 (k := 0) (by decide) rfl kf_X3_9 rfl rfl rfl hl rfl dX3_takeIn_28 ?_
    refine q_iconst (v := 1) B dX3_takeIn_31 rfl ?_
    exact q_zret BM rfl (Or.inr rfl) dX3_takeIn_32 ⟨by rw [if_pos c_16], rfl, by rw [if_pos c_16]⟩
  · skip
    refine q_iconst (v := 0) B dX3_takeIn_19 rfl ?_
    exact q_zret BM rfl (Or.inl rfl) dX3_takeIn_20 ⟨by rw [if_neg c_16], rfl, by rw [if_neg c_16, show ob 0 + 0 = ob 0 from Int32.add_zero _]; congr 1; funext z; by_cases e : z = 0 <;> simp [upd, e]⟩
set_option maxRecDepth 100000 in
set_option maxHeartbeats 4000000 in
theorem s_X3_handOut0 {Sh : q_Sh} {I : q_Mem} {l : Nat} {ob : a_A} (hl : q_is Sh l 3) (h0 : ¬ 0 < ob 0) : q_Rt mX3_handOut 0 [.ref l] Sh (q_setA I l ob) (some (.int 0)) (q_setA I l ob) := by
  refine q_rt_of (by decide) (Nat.le_of_ble_eq_true rfl) fun Γ BM => ?_
  have B := BM.1
  show q_W Γ mX3_handOut 0 0 Sh (q_setA I l ob) 0 [(0, .ref l)] []
  refine q_aload_n B dX3_handOut_0 rfl rfl ?_
  refine q_getIo B kC_X3 (k := 0) (by decide) rfl kf_X3_9 hl rfl dX3_handOut_1 ?_
  refine q_if_gt (tgt := 9) B dX3_handOut_4 (by decide) (fun h => absurd h h0) (fun _ => ?_)
  refine q_iconst (v := 0) B dX3_handOut_7 rfl ?_
  exact q_zret BM rfl (Or.inl rfl) dX3_handOut_8 ⟨rfl, rfl, rfl⟩
set_option maxRecDepth 100000 in
set_option maxHeartbeats 4000000 in
theorem s_X3_handOut1 {Sh : q_Sh} {I : q_Mem} {l : Nat} {ob : a_A} (hl : q_is Sh l 3) (h0 : 0 < ob 0) : q_Rt mX3_handOut 0 [.ref l] Sh (q_setA I l ob) (some (.int 1)) (q_setA I l (upd (upd ob 0 (ob 0 - 1)) 1 (ob 1 + 1))) := by
  refine q_rt_of (by decide) (Nat.le_of_ble_eq_true rfl) fun Γ BM => ?_
  have B := BM.1
  show q_W Γ mX3_handOut 0 0 Sh (q_setA I l ob) 0 [(0, .ref l)] []
  refine q_aload_n B dX3_handOut_0 rfl rfl ?_
  refine q_getIo B kC_X3 (k := 0) (by decide) rfl kf_X3_9 hl rfl dX3_handOut_1 ?_
  refine q_if_gt (tgt := 9) B dX3_handOut_4 (by decide) (fun _ => ?_) (fun h => absurd h0 h)
  refine q_aload_n B dX3_handOut_9 rfl rfl ?_
  refine q_dup B dX3_handOut_10 rfl ?_
  refine q_getIo B kC_X3 (k := 0) (by decide) rfl kf_X3_9 hl rfl dX3_handOut_11 ?_
  refine q_iconst (v := 1) B dX3_handOut_14 rfl ?_
  refine q_isub B dX3_handOut_15 ?_
  refine q_putIo B kC_X3 (k := 0) (by decide) rfl kf_X3_9 rfl rfl rfl hl rfl dX3_handOut_16 ?_
  refine q_aload_n B dX3_handOut_19 rfl rfl ?_
  refine q_dup B dX3_handOut_20 rfl ?_
  refine q_getIo B kC_X3 (k := 1) (by decide) rfl kf_X3_15 hl (q_upd_ne (by decide)) dX3_handOut_21 ?_
  refine q_iconst (v := 1) B dX3_handOut_24 rfl ?_
  refine q_iadd B dX3_handOut_25 ?_
  refine q_putIo B kC_X3 (k := 1) (by decide) rfl kf_X3_15 rfl rfl rfl hl rfl dX3_handOut_26 ?_
  refine q_iconst (v := 1) B dX3_handOut_29 rfl ?_
  exact q_zret BM rfl (Or.inr rfl) dX3_handOut_30 ⟨rfl, rfl, rfl⟩
