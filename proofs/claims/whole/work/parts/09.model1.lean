/-! the reference: its object at o, its arrays behind it, in the order of making -/
def mOk (Sh : q_Sh) (o : Nat) : Prop := q_is Sh o 7 ∧ (Sh.2.2 o 1 = some (o + 1) ∧ q_ar Sh (o + 1) 0 267) ∧ (Sh.2.2 o 2 = some (o + 2) ∧ q_ar Sh (o + 2) 0 267) ∧ (Sh.2.2 o 3 = some (o + 3) ∧ q_ar Sh (o + 3) 0 1602) ∧ (Sh.2.2 o 5 = some (o + 4) ∧ q_ar Sh (o + 4) 0 534) ∧ (Sh.2.2 o 6 = some (o + 5) ∧ q_ar Sh (o + 5) 1 2) ∧ (Sh.2.2 o 7 = some (o + 6) ∧ q_ar Sh (o + 6) 0 80) ∧ (Sh.2.2 o 11 = some (o + 7) ∧ q_ar Sh (o + 7) 0 240)
theorem mR_s {Sh : q_Sh} {o : Nat} (h : mOk Sh o) : Sh.2.2 o 1 = some (o + 1) := h.2.1.1
theorem mA_s {Sh : q_Sh} {o : Nat} (h : mOk Sh o) : q_ar Sh (o + 1) 0 267 := h.2.1.2
theorem mR_aside {Sh : q_Sh} {o : Nat} (h : mOk Sh o) : Sh.2.2 o 2 = some (o + 2) := h.2.2.1.1
theorem mA_aside {Sh : q_Sh} {o : Nat} (h : mOk Sh o) : q_ar Sh (o + 2) 0 267 := h.2.2.1.2
theorem mR_undos {Sh : q_Sh} {o : Nat} (h : mOk Sh o) : Sh.2.2 o 3 = some (o + 3) := h.2.2.2.1.1
theorem mA_undos {Sh : q_Sh} {o : Nat} (h : mOk Sh o) : q_ar Sh (o + 3) 0 1602 := h.2.2.2.1.2
theorem mR_slots {Sh : q_Sh} {o : Nat} (h : mOk Sh o) : Sh.2.2 o 5 = some (o + 4) := h.2.2.2.2.1.1
theorem mA_slots {Sh : q_Sh} {o : Nat} (h : mOk Sh o) : q_ar Sh (o + 4) 0 534 := h.2.2.2.2.1.2
theorem mR_hasSlot {Sh : q_Sh} {o : Nat} (h : mOk Sh o) : Sh.2.2 o 6 = some (o + 5) := h.2.2.2.2.2.1.1
theorem mA_hasSlot {Sh : q_Sh} {o : Nat} (h : mOk Sh o) : q_ar Sh (o + 5) 1 2 := h.2.2.2.2.2.1.2
theorem mR_pad {Sh : q_Sh} {o : Nat} (h : mOk Sh o) : Sh.2.2 o 7 = some (o + 6) := h.2.2.2.2.2.2.1.1
theorem mA_pad {Sh : q_Sh} {o : Nat} (h : mOk Sh o) : q_ar Sh (o + 6) 0 80 := h.2.2.2.2.2.2.1.2
theorem mR_orders {Sh : q_Sh} {o : Nat} (h : mOk Sh o) : Sh.2.2 o 11 = some (o + 7) := h.2.2.2.2.2.2.2.1
theorem mA_orders {Sh : q_Sh} {o : Nat} (h : mOk Sh o) : q_ar Sh (o + 7) 0 240 := h.2.2.2.2.2.2.2.2
theorem q_ofT {σ : a_A} (h : σ 1 = nI (a_T σ)) : σ 1 = nI (a_T σ) := h
set_option maxRecDepth 100000 in
set_option maxHeartbeats 4000000 in
theorem s_in {Sh : q_Sh} {I : q_Mem} {v a b : Int32} : q_Rt mX7_in 0 [.int v, .int a, .int b] Sh (I) (some (.int (if a ≤ v ∧ v ≤ b then 1 else 0))) (I) := by
  refine q_rt_of (by decide) (Nat.le_of_ble_eq_true rfl) fun Γ BM => ?_
  have B := BM.1
  show q_W Γ mX7_in 0 0 Sh (I) 0 [(0, .int v), (1, .int a), (2, .int b)] []
  refine q_join 15 ((if a ≤ v ∧ v ≤ b then 1 else 0)) ?_ (fun j_0 => ?_)
  · skip
    exact q_zret BM rfl (by split <;> simp) dX7_in_15 ⟨rfl, rfl, rfl⟩
  · skip
    refine q_iload_n B dX7_in_0 rfl rfl ?_
    refine q_iload_n B dX7_in_1 rfl rfl ?_
    refine q_icmp_lt (tgt := 14) B dX7_in_2 (by decide) (fun c_2 => ?_) (fun c_2 => ?_)
    · skip
      refine q_iconst (v := 0) B dX7_in_14 rfl ?_
      exact q_top (by first | (rw [if_pos ⟨Int32.not_lt.mp c_2, Int32.not_lt.mp c_7⟩]; done) | (rw [if_neg (fun h => absurd h.1 (Int32.not_le.mpr c_2))]; done) | (rw [if_neg (fun h => absurd h.2 (Int32.not_le.mpr c_7))]; done)) j_0
    · skip
      refine q_iload_n B dX7_in_5 rfl rfl ?_
      refine q_iload_n B dX7_in_6 rfl rfl ?_
      refine q_icmp_gt (tgt := 14) B dX7_in_7 (by decide) (fun c_7 => ?_) (fun c_7 => ?_)
      · skip
        refine q_iconst (v := 0) B dX7_in_14 rfl ?_
        exact q_top (by first | (rw [if_pos ⟨Int32.not_lt.mp c_2, Int32.not_lt.mp c_7⟩]; done) | (rw [if_neg (fun h => absurd h.1 (Int32.not_le.mpr c_2))]; done) | (rw [if_neg (fun h => absurd h.2 (Int32.not_le.mpr c_7))]; done)) j_0
      · skip
        refine q_iconst (v := 1) B dX7_in_10 rfl ?_
        refine q_goto (tgt := 15) B dX7_in_11 (by decide) ?_
        exact q_top (by first | (rw [if_pos ⟨Int32.not_lt.mp c_2, Int32.not_lt.mp c_7⟩]; done) | (rw [if_neg (fun h => absurd h.1 (Int32.not_le.mpr c_2))]; done) | (rw [if_neg (fun h => absurd h.2 (Int32.not_le.mpr c_7))]; done)) j_0
set_option maxRecDepth 100000 in
set_option maxHeartbeats 4000000 in
theorem s_of {Sh : q_Sh} {I : q_Mem} {σ : a_A} {o : Nat} (hm : mOk Sh o) {i k : Nat} (hi : i < 30) (hk : k < 7) : q_Rt mX7_of 0 [.ref o, .int (nI i), .int (nI k)] Sh (q_setA I (o + 1) σ) (some (.int (σ (57 + 7 * i + k)))) (q_setA I (o + 1) σ) := by
  refine q_rt_of (by decide) (Nat.le_of_ble_eq_true rfl) fun Γ BM => ?_
  have B := BM.1
  show q_W Γ mX7_of 0 0 Sh (q_setA I (o + 1) σ) 0 [(0, .ref o), (1, .int (nI i)), (2, .int (nI k))] []
  refine q_aload_n B dX7_of_0 rfl rfl ?_
  refine q_getR B kC_X7 (k := 1) (by decide) rfl kf_X7_7 hm.1 (mR_s hm) dX7_of_1 ?_
  refine q_bipush (v := nI 57) B dX7_of_4 rfl ?_
  refine q_bipush (v := nI 7) B dX7_of_6 rfl ?_
  refine q_iload_n B dX7_of_8 rfl rfl ?_
  refine q_imul B dX7_of_9 ?_
  refine q_iadd B dX7_of_10 ?_
  refine q_iload_n B dX7_of_11 rfl rfl ?_
  refine q_iadd B dX7_of_12 ?_
  refine q_ialdS (n := 57 + 7 * i + k) B (mA_s hm) (by simp only [nI_add, q_nI_mul]) (by omega) (by decide) dX7_of_13 ?_
  exact q_iret BM rfl dX7_of_14 ⟨rfl, rfl, rfl⟩
theorem s_of_0 {Sh : q_Sh} {I : q_Mem} {σ : a_A} {o : Nat} (hm : mOk Sh o) {i : Nat} (hi : i < 30) : q_Rt mX7_of 0 [.ref o, .int (nI i), .int (nI 0)] Sh (q_setA I (o + 1) σ) (some (.int (σ (57 + 7 * i)))) (q_setA I (o + 1) σ) := s_of hm hi (by decide)
set_option maxRecDepth 100000 in
set_option maxHeartbeats 4000000 in
theorem s_fixer0 {Sh : q_Sh} {I : q_Mem} {σ : a_A} {o : Nat} (hm : mOk Sh o) {i k : Nat} (hi : i < 5) (hk : k < 6) : q_Rt mX7_fixer0 0 [.ref o, .int (nI i), .int (nI k)] Sh (q_setA I (o + 1) σ) (some (.int (σ (27 + 6 * i + k)))) (q_setA I (o + 1) σ) := by
  refine q_rt_of (by decide) (Nat.le_of_ble_eq_true rfl) fun Γ BM => ?_
  have B := BM.1
  show q_W Γ mX7_fixer0 0 0 Sh (q_setA I (o + 1) σ) 0 [(0, .ref o), (1, .int (nI i)), (2, .int (nI k))] []
  refine q_aload_n B dX7_fixer0_0 rfl rfl ?_
  refine q_getR B kC_X7 (k := 1) (by decide) rfl kf_X7_7 hm.1 (mR_s hm) dX7_fixer0_1 ?_
  refine q_bipush (v := nI 27) B dX7_fixer0_4 rfl ?_
  refine q_bipush (v := nI 6) B dX7_fixer0_6 rfl ?_
  refine q_iload_n B dX7_fixer0_8 rfl rfl ?_
  refine q_imul B dX7_fixer0_9 ?_
  refine q_iadd B dX7_fixer0_10 ?_
  refine q_iload_n B dX7_fixer0_11 rfl rfl ?_
  refine q_iadd B dX7_fixer0_12 ?_
  refine q_ialdS (n := 27 + 6 * i + k) B (mA_s hm) (by simp only [nI_add, q_nI_mul]) (by omega) (by decide) dX7_fixer0_13 ?_
  exact q_iret BM rfl dX7_fixer0_14 ⟨rfl, rfl, rfl⟩
theorem s_fixer0_0 {Sh : q_Sh} {I : q_Mem} {σ : a_A} {o : Nat} (hm : mOk Sh o) {i : Nat} (hi : i < 5) : q_Rt mX7_fixer0 0 [.ref o, .int (nI i), .int (nI 0)] Sh (q_setA I (o + 1) σ) (some (.int (σ (27 + 6 * i)))) (q_setA I (o + 1) σ) := s_fixer0 hm hi (by decide)
set_option maxRecDepth 100000 in
set_option maxHeartbeats 4000000 in
theorem s_lay {Sh : q_Sh} {I : q_Mem} {σ : a_A} {o : Nat} (hm : mOk Sh o) {i k : Nat} {v : Int32} (hi : i < 30) (hk : k < 7) : q_Rt mX7_lay 0 [.ref o, .int (nI i), .int (nI k), .int v] Sh (q_setA I (o + 1) σ) (none) (q_setA I (o + 1) (upd σ (57 + 7 * i + k) v)) := by
  refine q_rt_of (by decide) (Nat.le_of_ble_eq_true rfl) fun Γ BM => ?_
  have B := BM.1
  show q_W Γ mX7_lay 0 0 Sh (q_setA I (o + 1) σ) 0 [(0, .ref o), (1, .int (nI i)), (2, .int (nI k)), (3, .int v)] []
  refine q_aload_n B dX7_lay_0 rfl rfl ?_
  refine q_getR B kC_X7 (k := 1) (by decide) rfl kf_X7_7 hm.1 (mR_s hm) dX7_lay_1 ?_
  refine q_bipush (v := nI 57) B dX7_lay_4 rfl ?_
  refine q_bipush (v := nI 7) B dX7_lay_6 rfl ?_
  refine q_iload_n B dX7_lay_8 rfl rfl ?_
  refine q_imul B dX7_lay_9 ?_
  refine q_iadd B dX7_lay_10 ?_
  refine q_iload_n B dX7_lay_11 rfl rfl ?_
  refine q_iadd B dX7_lay_12 ?_
  refine q_iload_n B dX7_lay_13 rfl rfl ?_
  refine q_iastS (n := 57 + 7 * i + k) B (mA_s hm) (by simp only [nI_add, q_nI_mul]) (by omega) (by decide) dX7_lay_14 ?_
  exact q_vret BM rfl dX7_lay_15 ⟨rfl, rfl, rfl⟩
theorem s_lay_0 {Sh : q_Sh} {I : q_Mem} {σ : a_A} {o : Nat} (hm : mOk Sh o) {i : Nat} {v : Int32} (hi : i < 30) : q_Rt mX7_lay 0 [.ref o, .int (nI i), .int (nI 0), .int v] Sh (q_setA I (o + 1) σ) none (q_setA I (o + 1) (upd σ (57 + 7 * i) v)) := s_lay hm hi (by decide)
set_option maxRecDepth 100000 in
set_option maxHeartbeats 4000000 in
theorem s_more {Sh : q_Sh} {I : q_Mem} {σ : a_A} {o : Nat} (hm : mOk Sh o) {i k : Nat} (hi : i < 5) (hk : k < 6) : q_Rt mX7_more 0 [.ref o, .int (nI i), .int (nI k)] Sh (q_setA I (o + 1) σ) (none) (q_setA I (o + 1) (upd σ (27 + 6 * i + k) (σ (27 + 6 * i + k) + 1))) := by
  refine q_rt_of (by decide) (Nat.le_of_ble_eq_true rfl) fun Γ BM => ?_
  have B := BM.1
  show q_W Γ mX7_more 0 0 Sh (q_setA I (o + 1) σ) 0 [(0, .ref o), (1, .int (nI i)), (2, .int (nI k))] []
  refine q_aload_n B dX7_more_0 rfl rfl ?_
  refine q_getR B kC_X7 (k := 1) (by decide) rfl kf_X7_7 hm.1 (mR_s hm) dX7_more_1 ?_
  refine q_bipush (v := nI 27) B dX7_more_4 rfl ?_
  refine q_bipush (v := nI 6) B dX7_more_6 rfl ?_
  refine q_iload_n B dX7_more_8 rfl rfl ?_
  refine q_imul B dX7_more_9 ?_
  refine q_iadd B dX7_more_10 ?_
  refine q_iload_n B dX7_more_11 rfl rfl ?_
  refine q_iadd B dX7_more_12 ?_
  refine q_dup2 B dX7_more_13 rfl rfl ?_
  refine q_ialdS (n := 27 + 6 * i + k) B (mA_s hm) (by simp only [nI_add, q_nI_mul]) (by omega) (by decide) dX7_more_14 ?_
  refine q_iconst (v := 1) B dX7_more_15 rfl ?_
  refine q_iadd B dX7_more_16 ?_
  refine q_iastS (n := 27 + 6 * i + k) B (mA_s hm) (by simp only [nI_add, q_nI_mul]) (by omega) (by decide) dX7_more_17 ?_
  exact q_vret BM rfl dX7_more_18 ⟨rfl, rfl, rfl⟩
set_option maxRecDepth 100000 in
set_option maxHeartbeats 4000000 in
theorem s_frees {Sh : q_Sh} {I : q_Mem} {σ : a_A} {o : Nat} (hm : mOk Sh o) {i : Nat} (hi : i < 5) : q_Rt mX7_frees 0 [.ref o, .int (nI i)] Sh (q_setA I (o + 1) σ) (none) (q_setA I (o + 1) (upd σ (27 + 6 * i + 2) 0)) := by
  refine q_rt_of (by decide) (Nat.le_of_ble_eq_true rfl) fun Γ BM => ?_
  have B := BM.1
  show q_W Γ mX7_frees 0 0 Sh (q_setA I (o + 1) σ) 0 [(0, .ref o), (1, .int (nI i))] []
  refine q_aload_n B dX7_frees_0 rfl rfl ?_
  refine q_getR B kC_X7 (k := 1) (by decide) rfl kf_X7_7 hm.1 (mR_s hm) dX7_frees_1 ?_
  refine q_bipush (v := nI 27) B dX7_frees_4 rfl ?_
  refine q_bipush (v := nI 6) B dX7_frees_6 rfl ?_
  refine q_iload_n B dX7_frees_8 rfl rfl ?_
  refine q_imul B dX7_frees_9 ?_
  refine q_iadd B dX7_frees_10 ?_
  refine q_iconst (v := nI 2) B dX7_frees_11 rfl ?_
  refine q_iadd B dX7_frees_12 ?_
  refine q_iconst (v := 0) B dX7_frees_13 rfl ?_
  refine q_iastS (n := 27 + 6 * i + 2) B (mA_s hm) (by simp only [nI_add, q_nI_mul]) (by omega) (by decide) dX7_frees_14 ?_
  exact q_vret BM rfl dX7_frees_15 ⟨rfl, rfl, rfl⟩
set_option maxRecDepth 100000 in
set_option maxHeartbeats 4000000 in
theorem s_partsOf {Sh : q_Sh} {I : q_Mem} {k : Nat} (hk : k < 6) : q_Rt mX7_partsOf 0 [.int (nI k)] Sh (I) (some (.int (nI (a_pm k)))) (I) := by
  refine q_rt_of (by decide) (Nat.le_of_ble_eq_true rfl) fun Γ BM => ?_
  have B := BM.1
  show q_W Γ mX7_partsOf 0 0 Sh (I) 0 [(0, .int (nI k))] []
  refine q_iconst (v := nI 1) B dX7_partsOf_0 rfl ?_
  refine q_iload_n B dX7_partsOf_1 rfl rfl ?_
  refine q_ishl B dX7_partsOf_2 ?_
  refine q_iconst (v := nI 1) B dX7_partsOf_3 rfl ?_
  refine q_iload_n B dX7_partsOf_4 rfl rfl ?_
  refine q_iconst (v := nI 1) B dX7_partsOf_5 rfl ?_
  refine q_iadd B dX7_partsOf_6 ?_
  refine q_bipush (v := nI 8) B dX7_partsOf_7 rfl ?_
  refine q_irem B dX7_partsOf_9 (by decide +kernel) ?_
  refine q_ishl B dX7_partsOf_10 ?_
  refine q_ior B dX7_partsOf_11 ?_
  refine q_iconst (v := nI 1) B dX7_partsOf_12 rfl ?_
  refine q_iload_n B dX7_partsOf_13 rfl rfl ?_
  refine q_iconst (v := nI 2) B dX7_partsOf_14 rfl ?_
  refine q_iadd B dX7_partsOf_15 ?_
  refine q_bipush (v := nI 8) B dX7_partsOf_16 rfl ?_
  refine q_irem B dX7_partsOf_18 (by decide +kernel) ?_
  refine q_ishl B dX7_partsOf_19 ?_
  refine q_ior B dX7_partsOf_20 ?_
  exact q_iret BM rfl dX7_partsOf_21 ⟨by rw [a_pm_i k hk], rfl, rfl⟩
set_option maxRecDepth 100000 in
set_option maxHeartbeats 4000000 in
theorem s_lowest {Sh : q_Sh} {I : q_Mem} {m : Nat} (hm0 : m < 256) (hmz : m ≠ 0) : q_Rt mX7_lowest 0 [.int (nI m)] Sh (I) (some (.int (nI (a_low m)))) (I) := by
  refine q_rt_of (by decide) (Nat.le_of_ble_eq_true rfl) fun Γ BM => ?_
  have B := BM.1
  obtain ⟨hl1, hl2, hl3⟩ := a_low_ok m hm0 hmz
  show q_W Γ mX7_lowest 0 0 Sh (I) 0 [(0, .int (nI m))] []
  refine q_iconst (v := nI 0) B dX7_lowest_0 rfl ?_
  refine q_istore_n B dX7_lowest_1 rfl (Nat.le_of_ble_eq_true rfl) rfl ?_
  have hl_2 : ∀ (n i : Nat) , i + n = a_low m → q_W Γ mX7_lowest 0 0 Sh I 2 [(0, .int (nI m)), (1, .int (nI i))] [] := by
    intro n
    induction n with
    | zero =>
      intro i  hin
      have hi : i = a_low m := by omega
      subst hi
      refine q_iload_n B dX7_lowest_2 rfl rfl ?_
      refine q_iload_n B dX7_lowest_3 rfl rfl ?_
      refine q_ishr B dX7_lowest_4 ?_
      refine q_iconst (v := nI 1) B dX7_lowest_5 rfl ?_
      refine q_iand B dX7_lowest_6 ?_
      refine q_if_ne (tgt := 16) B dX7_lowest_7 (by decide) (fun _ => ?_) (fun h => absurd h ((by rw [a_bit_i m hm0 _ hl1, hl2]; decide)))
      refine q_iload_n B dX7_lowest_16 rfl rfl ?_
      exact q_iret BM rfl dX7_lowest_17 ⟨rfl, rfl, rfl⟩
    | succ n ih =>
      intro i  hin
      have hiN : i < a_low m := by omega
      refine q_iload_n B dX7_lowest_2 rfl rfl ?_
      refine q_iload_n B dX7_lowest_3 rfl rfl ?_
      refine q_ishr B dX7_lowest_4 ?_
      refine q_iconst (v := nI 1) B dX7_lowest_5 rfl ?_
      refine q_iand B dX7_lowest_6 ?_
      refine q_if_ne (tgt := 16) B dX7_lowest_7 (by decide) (fun h => absurd ((by rw [a_bit_i m hm0 i (by omega), hl3 i hiN]; rfl)) h) (fun _ => ?_)
      refine q_iinc2 (y := nI (i + 1)) B dX7_lowest_10 rfl (q_inc1 _) (Nat.le_of_ble_eq_true rfl) rfl ?_
      refine q_goto (tgt := 2) B dX7_lowest_13 (by decide) ?_
      exact q_tk (ih (i + 1) (by omega)) rfl (q_ac rfl (q_ac rfl q_an))
  exact q_tk (hl_2 (a_low m) 0  (by omega)) rfl (q_ac rfl (q_ac rfl q_an))
