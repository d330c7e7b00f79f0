set_option maxRecDepth 100000 in
set_option maxHeartbeats 4000000 in
theorem s_putAside {Sh : q_Sh} {I : q_Mem} {σ : a_A} {o : Nat} (hm : mOk Sh o) : q_Rt mX7_putAside 0 [.ref o] Sh (q_setA I (o + 1) σ) (none) (q_setA (q_setA I (o + 2) σ) (o + 1) σ) := by
  refine q_rt_of (by decide) (Nat.le_of_ble_eq_true rfl) fun Γ BM => ?_
  have B := BM.1
  show q_W Γ mX7_putAside 0 0 Sh (q_setA I (o + 1) σ) 0 [(0, .ref o)] []
  refine q_iconst (v := nI 0) B dX7_putAside_0 rfl ?_
  refine q_istore_n B dX7_putAside_1 rfl (Nat.le_of_ble_eq_true rfl) rfl ?_
  have hl_2 : ∀ (n i : Nat) , i + n = 267 → q_W Γ mX7_putAside 0 0 Sh (q_setA (q_setA I (o + 2) (a_cp i σ (I (o + 2)))) (o + 1) σ) 2 [(0, .ref o), (1, .int (nI i))] [] := by
    intro n
    induction n with
    | zero =>
      intro i  hin
      have hi : i = 267 := by omega
      subst hi
      refine q_iload_n B dX7_putAside_2 rfl rfl ?_
      refine q_sipush (v := nI 267) B dX7_putAside_3 rfl ?_
      refine q_icmp_ge (tgt := 27) B dX7_putAside_6 (by decide) (fun _ => ?_) (fun h => absurd (q_le (Nat.le_refl 267) (by decide)) h)
      rw [q_setA_comm (by omega)]
      refine q_norm (mA_aside hm) (by decide) (g := σ) (fun j hj => a_cp_at (by omega)) ?_
      rw [q_setA_comm (by omega)]
      exact q_vret BM rfl dX7_putAside_27 ⟨rfl, rfl, rfl⟩
    | succ n ih =>
      intro i  hin
      have hiN : i < 267 := by omega
      refine q_iload_n B dX7_putAside_2 rfl rfl ?_
      refine q_sipush (v := nI 267) B dX7_putAside_3 rfl ?_
      refine q_icmp_ge (tgt := 27) B dX7_putAside_6 (by decide) (fun h => absurd h (q_nle hiN (by decide))) (fun _ => ?_)
      refine q_aload_n B dX7_putAside_9 rfl rfl ?_
      refine q_getR B kC_X7 (k := 2) (by decide) rfl kf_X7_13 hm.1 (mR_aside hm) dX7_putAside_10 ?_
      refine q_iload_n B dX7_putAside_13 rfl rfl ?_
      refine q_aload_n B dX7_putAside_14 rfl rfl ?_
      refine q_getR B kC_X7 (k := 1) (by decide) rfl kf_X7_7 hm.1 (mR_s hm) dX7_putAside_15 ?_
      refine q_iload_n B dX7_putAside_18 rfl rfl ?_
      refine q_ialdS (n := i) B (mA_s hm) rfl (by omega) (by decide) dX7_putAside_19 ?_
      refine q_iastO (n := i) B (by omega) (mA_aside hm) rfl (by omega) (by decide) dX7_putAside_20 ?_
      refine q_iinc2 (y := nI (i + 1)) B dX7_putAside_21 rfl (q_inc1 _) (Nat.le_of_ble_eq_true rfl) rfl ?_
      refine q_goto (tgt := 2) B dX7_putAside_24 (by decide) ?_
      exact q_tkm (ih (i + 1) (by omega)) (by rw [q_setA_at, q_setA_setA, a_cp_s]) rfl (q_ac rfl (q_ac rfl q_an))
  exact q_tkm (hl_2 267 0 (by omega)) (by rw [a_cp_0, q_setA_self]) rfl (q_ac rfl (q_ac rfl q_an))
set_option maxRecDepth 100000 in
set_option maxHeartbeats 4000000 in
theorem s_takeBack {Sh : q_Sh} {I : q_Mem} {σ : a_A} {o : Nat} (hm : mOk Sh o) : q_Rt mX7_takeBack 0 [.ref o] Sh (q_setA I (o + 1) σ) (none) (q_setA I (o + 1) (I (o + 2))) := by
  refine q_rt_of (by decide) (Nat.le_of_ble_eq_true rfl) fun Γ BM => ?_
  have B := BM.1
  show q_W Γ mX7_takeBack 0 0 Sh (q_setA I (o + 1) σ) 0 [(0, .ref o)] []
  refine q_iconst (v := nI 0) B dX7_takeBack_0 rfl ?_
  refine q_istore_n B dX7_takeBack_1 rfl (Nat.le_of_ble_eq_true rfl) rfl ?_
  have hl_2 : ∀ (n i : Nat) , i + n = 267 → q_W Γ mX7_takeBack 0 0 Sh (q_setA I (o + 1) (a_cp i (I (o + 2)) σ)) 2 [(0, .ref o), (1, .int (nI i))] [] := by
    intro n
    induction n with
    | zero =>
      intro i  hin
      have hi : i = 267 := by omega
      subst hi
      refine q_iload_n B dX7_takeBack_2 rfl rfl ?_
      refine q_sipush (v := nI 267) B dX7_takeBack_3 rfl ?_
      refine q_icmp_ge (tgt := 27) B dX7_takeBack_6 (by decide) (fun _ => ?_) (fun h => absurd (q_le (Nat.le_refl 267) (by decide)) h)
      refine q_norm (mA_s hm) (by decide) (g := I (o + 2)) (fun j hj => a_cp_at (by omega)) ?_
      exact q_vret BM rfl dX7_takeBack_27 ⟨rfl, rfl, rfl⟩
    | succ n ih =>
      intro i  hin
      have hiN : i < 267 := by omega
      refine q_iload_n B dX7_takeBack_2 rfl rfl ?_
      refine q_sipush (v := nI 267) B dX7_takeBack_3 rfl ?_
      refine q_icmp_ge (tgt := 27) B dX7_takeBack_6 (by decide) (fun h => absurd h (q_nle hiN (by decide))) (fun _ => ?_)
      refine q_aload_n B dX7_takeBack_9 rfl rfl ?_
      refine q_getR B kC_X7 (k := 1) (by decide) rfl kf_X7_7 hm.1 (mR_s hm) dX7_takeBack_10 ?_
      refine q_iload_n B dX7_takeBack_13 rfl rfl ?_
      refine q_aload_n B dX7_takeBack_14 rfl rfl ?_
      refine q_getR B kC_X7 (k := 2) (by decide) rfl kf_X7_13 hm.1 (mR_aside hm) dX7_takeBack_15 ?_
      refine q_iload_n B dX7_takeBack_18 rfl rfl ?_
      refine q_ialdO (n := i) B (by omega) (mA_aside hm) rfl (by omega) (by decide) dX7_takeBack_19 ?_
      refine q_iastS (n := i) B (mA_s hm) rfl (by omega) (by decide) dX7_takeBack_20 ?_
      refine q_iinc2 (y := nI (i + 1)) B dX7_takeBack_21 rfl (q_inc1 _) (Nat.le_of_ble_eq_true rfl) rfl ?_
      refine q_goto (tgt := 2) B dX7_takeBack_24 (by decide) ?_
      exact q_tkm (ih (i + 1) (by omega)) (by rw [a_cp_s]) rfl (q_ac rfl (q_ac rfl q_an))
  exact q_tkm (hl_2 267 0 (by omega)) (by rw [a_cp_0]) rfl (q_ac rfl (q_ac rfl q_an))
theorem a_sh_s (i : Nat) (U : a_A) : upd (a_sh i U) i (a_sh i U (i + 267)) = a_sh (i + 1) U := by
  funext k
  by_cases h : k = i
  · subst h
    have : ¬ k + 267 < k := by omega
    simp [upd, a_sh, this]
  · by_cases h2 : k < i
    · simp [upd, a_sh, h, h2, Nat.lt_succ_of_lt h2]
    · have : ¬ k < i + 1 := by omega
      simp [upd, a_sh, h, h2, this]
def a_rs (i : Nat) (U σ : a_A) (u : Nat) : a_A := fun k => if 267 * u ≤ k ∧ k < 267 * u + i then σ (k - 267 * u) else U k
theorem a_rs_0 (U σ : a_A) (u : Nat) : a_rs 0 U σ u = U := by
  funext k
  have : ¬ (267 * u ≤ k ∧ k < 267 * u + 0) := by omega
  simp only [a_rs, if_neg this]
theorem a_rs_s (i : Nat) (U σ : a_A) (u : Nat) : upd (a_rs i U σ u) (267 * u + i) (σ i) = a_rs (i + 1) U σ u := by
  funext k
  by_cases h : k = 267 * u + i
  · subst h
    have h1 : 267 * u ≤ 267 * u + i ∧ 267 * u + i < 267 * u + (i + 1) := by omega
    simp only [upd, a_rs, if_true, if_pos h1]
    congr 1; omega
  · by_cases h2 : 267 * u ≤ k ∧ k < 267 * u + i
    · have h3 : 267 * u ≤ k ∧ k < 267 * u + (i + 1) := by omega
      simp only [upd, a_rs, if_neg h, if_pos h2, if_pos h3]
    · have h3 : ¬ (267 * u ≤ k ∧ k < 267 * u + (i + 1)) := by omega
      simp only [upd, a_rs, if_neg h, if_neg h2, if_neg h3]
set_option maxRecDepth 100000 in
set_option maxHeartbeats 4000000 in
theorem s_records {Sh : q_Sh} {I : q_Mem} {σ : a_A} {o : Nat} (hm : mOk Sh o) {u : Nat} (hu : u ≤ 6) (hu4 : I o 4 = nI u) : q_Rt mX7_records 0 [.ref o] Sh (q_setA I (o + 1) σ) (none) (q_setA (a_rec I o σ) (o + 1) σ) := by
  refine q_rt_of (by decide) (Nat.le_of_ble_eq_true rfl) fun Γ BM => ?_
  have B := BM.1
  have hau : a_n (I o 4) = u := by rw [hu4]; exact nI_clamp (by omega)
  show q_W Γ mX7_records 0 0 Sh (q_setA I (o + 1) σ) 0 [(0, .ref o)] []
  have j_50 : ∀ (U1 ob : a_A) (u1 : Nat), (u1 ≤ 5 ∧ ob 4 = nI u1 ∧ a_recU (I (o + 3)) σ u = a_recS U1 σ u1 ∧ upd ob 4 (nI (u1 + 1)) = upd (I o) 4 (nI (a_recN u))) → q_W Γ mX7_records 0 0 Sh (q_setA (q_setA (q_setA I (o + 3) U1) o ob) (o + 1) σ) 50 [(0, .ref o)] [] := by
    intro U1 ob u1 hr
    obtain ⟨g1, g2, g3, g4⟩ := hr
    refine q_iconst (v := nI 0) B dX7_records_50 rfl ?_
    refine q_istore_n B dX7_records_51 rfl (Nat.le_of_ble_eq_true rfl) rfl ?_
    have hl_52 : ∀ (n i : Nat) , i + n = 267 → q_W Γ mX7_records 0 0 Sh (q_setA (q_setA (q_setA I o ob) (o + 3) (a_rs i U1 σ u1)) (o + 1) σ) 52 [(0, .ref o), (1, .int (nI i))] [] := by
      intro n
      induction n with
      | zero =>
        intro i  hin
        have hi : i = 267 := by omega
        subst hi
        refine q_iload_n B dX7_records_52 rfl rfl ?_
        refine q_sipush (v := nI 267) B dX7_records_53 rfl ?_
        refine q_icmp_ge (tgt := 86) B dX7_records_56 (by decide) (fun _ => ?_) (fun h => absurd (q_le (Nat.le_refl 267) (by decide)) h)
        refine q_aload_n B dX7_records_86 rfl rfl ?_
        refine q_dup B dX7_records_87 rfl ?_
        refine q_getIS B (by omega) kC_X7 (k := 4) (by decide) rfl kf_X7_36 hm.1 dX7_records_88 ?_
        refine q_top (y := nI u1) (((congrFun (q_setA_ne (by omega)) _).trans (congrFun (q_setA_at _ _ _) _)).trans g2) ?_
        refine q_iconst (v := nI 1) B dX7_records_91 rfl ?_
        refine q_iadd B dX7_records_92 ?_
        refine q_top (nI_add u1 1) ?_
        refine q_putIS B (by omega) kC_X7 (k := 4) (by decide) rfl kf_X7_36 rfl rfl rfl hm.1 dX7_records_93 ?_
        exact q_vret BM rfl dX7_records_96 ⟨rfl, rfl, by rw [a_rec, hau, g3, ← g4, q_setA_ne (l := o + 3) (m := o) (by omega), q_setA_at, q_setA_comm (l := o + 3) (m := o) (by omega), q_setA_setA, q_setA_comm (l := o) (m := o + 3) (by omega)]; rfl⟩
      | succ n ih =>
        intro i  hin
        have hiN : i < 267 := by omega
        refine q_iload_n B dX7_records_52 rfl rfl ?_
        refine q_sipush (v := nI 267) B dX7_records_53 rfl ?_
        refine q_icmp_ge (tgt := 86) B dX7_records_56 (by decide) (fun h => absurd h (q_nle hiN (by decide))) (fun _ => ?_)
        refine q_aload_n B dX7_records_59 rfl rfl ?_
        refine q_getR B kC_X7 (k := 3) (by decide) rfl kf_X7_16 hm.1 (mR_undos hm) dX7_records_60 ?_
        refine q_sipush (v := nI 267) B dX7_records_63 rfl ?_
        refine q_aload_n B dX7_records_66 rfl rfl ?_
        refine q_getIS B (by omega) kC_X7 (k := 4) (by decide) rfl kf_X7_36 hm.1 dX7_records_67 ?_
        refine q_top (y := nI u1) (((congrFun (q_setA_ne (by omega)) _).trans (congrFun (q_setA_at _ _ _) _)).trans g2) ?_
        refine q_imul B dX7_records_70 ?_
        refine q_iload_n B dX7_records_71 rfl rfl ?_
        refine q_iadd B dX7_records_72 ?_
        refine q_aload_n B dX7_records_73 rfl rfl ?_
        refine q_getR B kC_X7 (k := 1) (by decide) rfl kf_X7_7 hm.1 (mR_s hm) dX7_records_74 ?_
        refine q_iload_n B dX7_records_77 rfl rfl ?_
        refine q_ialdS (n := i) B (mA_s hm) rfl (by omega) (by decide) dX7_records_78 ?_
        refine q_iastO (n := 267 * u1 + i) B (by omega) (mA_undos hm) (by simp only [nI_add, q_nI_mul]) (by omega) (by decide) dX7_records_79 ?_
        refine q_iinc2 (y := nI (i + 1)) B dX7_records_80 rfl (q_inc1 _) (Nat.le_of_ble_eq_true rfl) rfl ?_
        refine q_goto (tgt := 52) B dX7_records_83 (by decide) ?_
        exact q_tkm (ih (i + 1) (by omega)) (by rw [q_setA_at, q_setA_setA, a_rs_s]) rfl (q_ac rfl (q_ac rfl q_an))
    exact q_tkm (hl_52 267 0 (by omega)) (by rw [a_rs_0, q_setA_comm (l := o) (m := o + 3) (by omega)]) rfl (q_ac rfl (q_ac rfl q_an))
  refine q_aload_n B dX7_records_0 rfl rfl ?_
  refine q_getIS B (by omega) kC_X7 (k := 4) (by decide) rfl kf_X7_36 hm.1 dX7_records_1 ?_
  refine q_top hu4 ?_
  refine q_bipush (v := nI 6) B dX7_records_4 rfl ?_
  refine q_icmp_ne (tgt := 50) B dX7_records_6 (by decide) (fun c_6 => ?_) (fun c_6 => ?_)
  · skip
    have c6 : u ≠ 6 := fun q => c_6 (by rw [q])
    have h50 := j_50 (I (o + 3)) (I o) u ⟨by omega, hu4, by rw [a_recU, if_neg c6], by rw [a_recN, if_neg c6]⟩
    rw [q_setA_self, q_setA_self] at h50
    exact h50
  · skip
    have c6 : u = 6 := (nI_eq (by omega) (by omega)).mp c_6
    subst c6
    refine q_iconst (v := nI 0) B dX7_records_9 rfl ?_
    refine q_istore_n B dX7_records_10 rfl (Nat.le_of_ble_eq_true rfl) rfl ?_
    have hl_11 : ∀ (n i : Nat) , i + n = 1335 → q_W Γ mX7_records 0 0 Sh (q_setA (q_setA I (o + 3) (a_sh i (I (o + 3)))) (o + 1) σ) 11 [(0, .ref o), (1, .int (nI i))] [] := by
      intro n
      induction n with
      | zero =>
        intro i  hin
        have hi : i = 1335 := by omega
        subst hi
        refine q_iload_n B dX7_records_11 rfl rfl ?_
        refine q_sipush (v := nI 1335) B dX7_records_12 rfl ?_
        refine q_icmp_ge (tgt := 40) B dX7_records_15 (by decide) (fun _ => ?_) (fun h => absurd (q_le (Nat.le_refl 1335) (by decide)) h)
        refine q_aload_n B dX7_records_40 rfl rfl ?_
        refine q_dup B dX7_records_41 rfl ?_
        refine q_getIS B (by omega) kC_X7 (k := 4) (by decide) rfl kf_X7_36 hm.1 dX7_records_42 ?_
        refine q_top (y := nI 6) ((congrFun (q_setA_ne (by omega)) _).trans hu4) ?_
        refine q_iconst (v := nI 1) B dX7_records_45 rfl ?_
        refine q_isub B dX7_records_46 ?_
        refine q_top (y := nI 5) (by decide) ?_
        refine q_putIS B (by omega) kC_X7 (k := 4) (by decide) rfl kf_X7_36 rfl rfl rfl hm.1 dX7_records_47 ?_
        have h50 := j_50 (a_sh 1335 (I (o + 3))) (upd (I o) 4 (nI 5)) 5 ⟨by omega, q_upd_at _ _ _, by rw [a_recU, if_pos rfl], by funext z; by_cases e : z = 4 <;> simp [upd, e, a_recN]⟩
        refine q_tkm h50 (by rw [q_setA_ne (I := I) (by omega)]) rfl (q_ac rfl q_an)
      | succ n ih =>
        intro i  hin
        have hiN : i < 1335 := by omega
        refine q_iload_n B dX7_records_11 rfl rfl ?_
        refine q_sipush (v := nI 1335) B dX7_records_12 rfl ?_
        refine q_icmp_ge (tgt := 40) B dX7_records_15 (by decide) (fun h => absurd h (q_nle hiN (by decide))) (fun _ => ?_)
        refine q_aload_n B dX7_records_18 rfl rfl ?_
        refine q_getR B kC_X7 (k := 3) (by decide) rfl kf_X7_16 hm.1 (mR_undos hm) dX7_records_19 ?_
        refine q_iload_n B dX7_records_22 rfl rfl ?_
        refine q_aload_n B dX7_records_23 rfl rfl ?_
        refine q_getR B kC_X7 (k := 3) (by decide) rfl kf_X7_16 hm.1 (mR_undos hm) dX7_records_24 ?_
        refine q_iload_n B dX7_records_27 rfl rfl ?_
        refine q_sipush (v := nI 267) B dX7_records_28 rfl ?_
        refine q_iadd B dX7_records_31 ?_
        refine q_ialdO (n := i + 267) B (by omega) (mA_undos hm) (by simp only [nI_add]) (by omega) (by decide) dX7_records_32 ?_
        refine q_iastO (n := i) B (by omega) (mA_undos hm) rfl (by omega) (by decide) dX7_records_33 ?_
        refine q_iinc2 (y := nI (i + 1)) B dX7_records_34 rfl (q_inc1 _) (Nat.le_of_ble_eq_true rfl) rfl ?_
        refine q_goto (tgt := 11) B dX7_records_37 (by decide) ?_
        exact q_tkm (ih (i + 1) (by omega)) (by rw [q_setA_at, q_setA_setA, a_sh_s]) rfl (q_ac rfl (q_ac rfl q_an))
    exact q_tkm (hl_11 1335 0 (by omega)) (by rw [show a_sh 0 (I (o + 3)) = I (o + 3) from by funext z; simp [a_sh], q_setA_self]) rfl (q_ac rfl (q_ac rfl q_an))
