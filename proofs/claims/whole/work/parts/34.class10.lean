def a_refG (σ : a_A) (t : Int32) : Int32 := if ¬ (nI 0 ≤ t ∧ t < σ 1) then -1 else if σ (57 + 7 * a_n t + 4) = 0 then 0 else -5
theorem s_thingOpt {Sh : q_Sh} {I : q_Mem} {b T i : Nat} (hc : cOk Sh b) (hT : I b 1 = nI T) (hT2 : T ≤ 30) (hi : i < 30) : q_Rt mX0_thingAt 0 [.ref b, .int (nI i)] Sh I (some (if i < T then .ref (b + 4 + i) else .null)) I := by
  by_cases h : i < T
  · rw [if_pos h]; exact s_X0_thingAt hc hT hT2 h
  · rw [if_neg h]; exact s_X0_thingAt_no hc hT (fun q => h ((nI_ltI (by omega) (by omega)).mp q.2))
theorem s_fixerOpt {Sh : q_Sh} {I : q_Mem} {b F i : Nat} (hc : cOk Sh b) (hF : I b 2 = nI F) (hF2 : F ≤ 5) (hi : i < 5) : q_Rt mX0_fixerAt 0 [.ref b, .int (nI i)] Sh I (some (if i < F then .ref (b + 34 + i) else .null)) I := by
  by_cases h : i < F
  · rw [if_pos h]; exact s_X0_fixerAt hc hF hF2 h
  · rw [if_neg h]; exact s_X0_fixerAt_no hc hF (fun q => h ((nI_ltI (by omega) (by omega)).mp q.2))
theorem s_cp5 {Sh : q_Sh} {I : q_Mem} {l m : Nat} (hl : q_is Sh l 5) (hm : q_is Sh m 5) (hne : m ≠ l) : q_Rt mX5_copyFrom 0 [.ref l, .ref m] Sh I none (q_setA I l (a_cp 8 (I m) (I l))) := s_atM (s_X5_copyFrom hl hm hne)
theorem s_cp1 {Sh : q_Sh} {I : q_Mem} {l m : Nat} (hl : q_is Sh l 1) (hm : q_is Sh m 1) (hne : m ≠ l) : q_Rt mX1_copyFrom 0 [.ref l, .ref m] Sh I none (q_setA I l (a_cp 6 (I m) (I l))) := s_atM (s_X1_copyFrom hl hm hne)
theorem s_cp3 {Sh : q_Sh} {I : q_Mem} {l m : Nat} (hl : q_is Sh l 3) (hm : q_is Sh m 3) (hne : m ≠ l) : q_Rt mX3_copyFrom 0 [.ref l, .ref m] Sh I none (q_setA I l (a_cp 3 (I m) (I l))) := s_atM (s_X3_copyFrom hl hm hne)
theorem a_cp_is {n k : Nat} {f g : a_A} (h : k < n) : a_cp n f g k = f k := if_pos h
/-- the part of a Cafe that is copied -/
def Cp (T F b c : Nat) (I J : q_Mem) (x y z : Nat) : Prop := (J b 0 = I c 0 ∧ J b 1 = nI T ∧ J b 2 = nI F) ∧ (∀ i, i < x → i < T → ∀ k, k < 8 → J (b + 4 + i) k = I (c + 4 + i) k) ∧ (∀ i, i < y → i < F → ∀ k, k < 6 → J (b + 34 + i) k = I (c + 34 + i) k) ∧ (∀ i, i < z → i < 8 → ∀ k, k < 3 → J (b + 39 + i) k = I (c + 39 + i) k)
theorem Cp.fin {T F b c : Nat} {I J : q_Mem} {σ : a_A} (h : Cp T F b c I J 30 5 8) (hR : Rc T F c I σ) : Rc T F b J σ := by
  obtain ⟨⟨k1, k2, k3⟩, k4, k5, k6⟩ := h
  obtain ⟨⟨⟨hT, hF⟩, ⟨h1, h2, h3⟩, h4, h5, h6⟩, hw, hW⟩ := hR
  refine ⟨⟨⟨hT, hF⟩, ⟨k1.trans h1, k2, k3⟩, fun i hi => ?_, fun f hf => ?_, fun q hq => ?_⟩, fun i hi => ?_, hW⟩
  · obtain ⟨a1, a2, a3⟩ := h4 i hi
    have e := k4 i (by omega) hi
    exact ⟨fun k hk => (e k (by omega)).trans (a1 k hk), (e 6 (by decide)).trans a2, (e 7 (by decide)).trans a3⟩
  · obtain ⟨a0, a1, a2, a3, a4, a5⟩ := h5 f hf
    have e := k5 f (by omega) hf
    exact ⟨(e 0 (by decide)).trans a0, (e 1 (by decide)).trans a1, (e 2 (by decide)).trans a2, (e 3 (by decide)).trans a3, (e 4 (by decide)).trans a4, (e 5 (by decide)).trans a5⟩
  · obtain ⟨a0, a1, a2⟩ := h6 q hq
    have e := k6 q hq hq
    exact ⟨(e 0 (by decide)).trans a0, (e 1 (by decide)).trans a1, (e 2 (by decide)).trans a2⟩
  · exact (k4 i (by omega) hi 5 (by decide)).trans (hw i hi)
theorem Cp.b {T F b c x y z l : Nat} {I J : q_Mem} {f : a_A} (h : Cp T F b c I J x y z) (hx : l = b + 4 + x ∧ y = 0 ∧ z = 0 ∧ x < 30 ∧ (∀ k, k < 8 → f k = I (c + 4 + x) k)) : Cp T F b c I (q_setA J l f) (x + 1) y z := by
  obtain ⟨rfl, rfl, rfl, hx, hf⟩ := hx
  obtain ⟨⟨k1, k2, k3⟩, k4, k5, k6⟩ := h
  refine ⟨⟨by rw [q_setA_ne (by omega)]; exact k1, by rw [q_setA_ne (by omega)]; exact k2, by rw [q_setA_ne (by omega)]; exact k3⟩, fun i hi hT k hk => ?_, fun i hi => absurd hi (Nat.not_lt_zero i), fun i hi => absurd hi (Nat.not_lt_zero i)⟩
  by_cases e : i = x
  · subst e; rw [q_setA_at]; exact hf k hk
  · rw [q_setA_ne (by omega)]; exact k4 i (by omega) hT k hk
theorem Cp.b2 {T F b c y z l : Nat} {I J : q_Mem} {f : a_A} (h : Cp T F b c I J 30 y z) (hx : l = b + 34 + y ∧ z = 0 ∧ y < 5 ∧ (∀ k, k < 6 → f k = I (c + 34 + y) k)) : Cp T F b c I (q_setA J l f) 30 (y + 1) z := by
  obtain ⟨rfl, rfl, hx, hf⟩ := hx
  obtain ⟨⟨k1, k2, k3⟩, k4, k5, k6⟩ := h
  refine ⟨⟨by rw [q_setA_ne (by omega)]; exact k1, by rw [q_setA_ne (by omega)]; exact k2, by rw [q_setA_ne (by omega)]; exact k3⟩, fun i hi hT k hk => by rw [q_setA_ne (by omega)]; exact k4 i hi hT k hk, fun i hi hF k hk => ?_, fun i hi => absurd hi (Nat.not_lt_zero i)⟩
  by_cases e : i = y
  · subst e; rw [q_setA_at]; exact hf k hk
  · rw [q_setA_ne (by omega)]; exact k5 i (by omega) hF k hk
theorem Cp.b3 {T F b c z l : Nat} {I J : q_Mem} {f : a_A} (h : Cp T F b c I J 30 5 z) (hx : l = b + 39 + z ∧ z < 8 ∧ (∀ k, k < 3 → f k = I (c + 39 + z) k)) : Cp T F b c I (q_setA J l f) 30 5 (z + 1) := by
  obtain ⟨rfl, hx, hf⟩ := hx
  obtain ⟨⟨k1, k2, k3⟩, k4, k5, k6⟩ := h
  refine ⟨⟨by rw [q_setA_ne (by omega)]; exact k1, by rw [q_setA_ne (by omega)]; exact k2, by rw [q_setA_ne (by omega)]; exact k3⟩, fun i hi hT k hk => by rw [q_setA_ne (by omega)]; exact k4 i hi hT k hk, fun i hi hF k hk => by rw [q_setA_ne (by omega)]; exact k5 i hi hF k hk, fun i hi h8 k hk => ?_⟩
  by_cases e : i = z
  · subst e; rw [q_setA_at]; exact hf k hk
  · rw [q_setA_ne (by omega)]; exact k6 i (by omega) h8 k hk
theorem Cp.n1 {T F b c x : Nat} {I J : q_Mem} (h : Cp T F b c I J x 0 0) (hx : ¬ x < T) : Cp T F b c I J (x + 1) 0 0 := ⟨h.1, fun i hi hT => h.2.1 i (by omega) hT, h.2.2⟩
theorem Cp.n2 {T F b c y : Nat} {I J : q_Mem} (h : Cp T F b c I J 30 y 0) (hx : ¬ y < F) : Cp T F b c I J 30 (y + 1) 0 := ⟨h.1, h.2.1, fun i hi hF => h.2.2.1 i (by omega) hF, h.2.2.2⟩
set_option maxRecDepth 100000 in
set_option maxHeartbeats 4000000 in
theorem s_X0_addFixer {Sh : q_Sh} {I : q_Mem} {σ : a_A} {b T F : Nat} (hc : cOk Sh b) (hR : Rc T F b I σ) {k c : Int32} : q_Rp mX0_addFixer 1 [.ref b, .int k, .int c] Sh (I) (fun w I2 => Cg b I (a_refF σ k c) (nI F) (a_comesF σ k c) w I2) := by
  refine q_rp_of (by decide) (Nat.le_of_ble_eq_true rfl) fun Γ BM => ?_
  have B := BM.1
  have hT := hR.1.2.1.2.1
  have hT2 := hR.1.1.1
  have hF := hR.1.2.1.2.2
  have hF2 := hR.1.1.2
  have haT := a_W_T hR.2.2
  have haF := a_W_F hR.2.2
  show q_W Γ mX0_addFixer 0 0 Sh (I) 0 [(0, .ref b), (1, .int k), (2, .int c)] []
  refine q_iload_n B dX0_addFixer_0 rfl rfl ?_
  refine q_iload_n B dX0_addFixer_1 rfl rfl ?_
  refine q_rtSN B s_X6_isFixer kv_yX6_isFixer kt_yX6_isFixer kn_X0_72 rfl (by decide) rfl (Nat.le_of_ble_eq_true rfl) dX0_addFixer_2 ?_
  refine q_if_ne (tgt := 11) B dX0_addFixer_5 (by decide) (fun c_5 => ?_) (fun c_5 => ?_)
  · skip
    have hfx := a_b1 c_5
    have hno : ¬ (¬ (nI 1 ≤ k ∧ k ≤ nI 63) ∨ ¬ (nI 0 ≤ c ∧ c ≤ nI 9)) := fun q => q.elim (fun z => z hfx.1) (fun z => z hfx.2)
    refine q_aload_n B dX0_addFixer_11 rfl rfl ?_
    refine q_getI2 B kC_X0 (k := 2) (by decide) rfl kf_X0_18 hc.1 hF dX0_addFixer_12 ?_
    refine q_iconst (v := nI 5) B dX0_addFixer_15 rfl ?_
    refine q_icmp_lt (tgt := 22) B dX0_addFixer_16 (by decide) (fun c_16 => ?_) (fun c_16 => ?_)
    · skip
      have hFl : F < 5 := (nI_ltI (by omega) (by decide)).mp c_16
      have hrf : a_refF σ k c = 0 := by unfold a_refF; rw [if_neg hno, if_neg (by rw [hR.2.2.2.1.1]; exact fun q => absurd ((nI_eq (by omega) (by decide)).mp q) (by omega))]
      refine q_aload_n B dX0_addFixer_22 rfl rfl ?_
      refine q_getI2 B kC_X0 (k := 2) (by decide) rfl kf_X0_18 hc.1 hF dX0_addFixer_23 ?_
      refine q_istore_n B dX0_addFixer_26 rfl (Nat.le_of_ble_eq_true rfl) rfl ?_
      refine q_aload_n B dX0_addFixer_27 rfl rfl ?_
      refine q_dup B dX0_addFixer_28 rfl ?_
      refine q_getI2 B kC_X0 (k := 2) (by decide) rfl kf_X0_18 hc.1 hF dX0_addFixer_29 ?_
      refine q_iconst (v := 1) B dX0_addFixer_32 rfl ?_
      refine q_iadd B dX0_addFixer_33 ?_
      refine q_top (a_inc F) ?_
      refine q_putI2 B kC_X0 (k := 2) (by decide) rfl kf_X0_18 rfl rfl rfl hc.1 dX0_addFixer_34 ?_
      refine q_aload_n B dX0_addFixer_37 rfl rfl ?_
      refine q_iload_n B dX0_addFixer_38 rfl rfl ?_
      refine q_rtV B (s_X0_fixerAt (T := F + 1) hc (by rw [q_setA_at, q_upd_at]) (by omega) (Nat.lt_succ_self F)) kv_yX0_fixerAt ki_yX0_fixerAt ks_yX0_fixerAt km_X0_50 rfl (ci := 0) rfl rfl hc.1 (by decide) rfl (Nat.le_of_ble_eq_true rfl) dX0_addFixer_39 ?_
      refine q_astore B dX0_addFixer_42 (Nat.le_of_ble_eq_true rfl) rfl ?_
      refine q_aload B dX0_addFixer_44 rfl ?_
      refine q_ifnull B dX0_addFixer_46 ?_
      refine q_aload B dX0_addFixer_49 rfl ?_
      refine q_iload_n B dX0_addFixer_51 rfl rfl ?_
      refine q_iload_n B dX0_addFixer_52 rfl rfl ?_
      refine q_rtV B (s_come1 (cF hc (i := F) (by omega))) kv_yX1_come ki_yX1_come ks_yX1_come km_X0_76 rfl (ci := 1) rfl rfl (cF hc (i := F) (by omega)) (by decide) rfl (Nat.le_of_ble_eq_true rfl) dX0_addFixer_53 ?_
      refine q_iload_n B dX0_addFixer_56 rfl rfl ?_
      exact q_iret BM rfl dX0_addFixer_57 ⟨rfl, _, rfl, Or.inr ⟨hrf, rfl, (Rc_comeF hR hFl).s, (Fr.set (Nat.le_refl _) (by omega)).tr (Fr.set (by omega) (by omega))⟩⟩
    · skip
      have hF5 : F = 5 := by
        have : ¬ F < 5 := fun z => c_16 ((nI_ltI (by omega) (by decide)).mpr z)
        omega
      have hrf : a_refF σ k c = -4 := by unfold a_refF; rw [if_neg hno, if_pos (by rw [hR.2.2.2.1.1, hF5])]
      refine q_bipush (v := -4) B dX0_addFixer_19 rfl ?_
      exact q_iret BM rfl dX0_addFixer_21 ⟨rfl, _, rfl, Or.inl ⟨by rw [hrf]; decide, hrf.symm, rfl⟩⟩
  · skip
    have hrf : a_refF σ k c = -2 := by
      by_cases z : nI 1 ≤ k ∧ k ≤ nI 63
      · exact if_pos (Or.inr (fun y => a_b0 c_5 ⟨z, y⟩))
      · exact if_pos (Or.inl z)
    refine q_bipush (v := -2) B dX0_addFixer_8 rfl ?_
    exact q_iret BM rfl dX0_addFixer_10 ⟨rfl, _, rfl, Or.inl ⟨by rw [hrf]; decide, hrf.symm, rfl⟩⟩
set_option maxRecDepth 100000 in
set_option maxHeartbeats 4000000 in
theorem s_X0_fillDrawer_no {Sh : q_Sh} {I : q_Mem} {σ : a_A} {b T F : Nat} (hc : cOk Sh b) (hR : Rc T F b I σ) {p m : Int32} (hp : ¬ (0 ≤ p ∧ p ≤ nI 7)) : q_Rt mX0_fillDrawer 1 [.ref b, .int p, .int m] Sh (I) (some (.int (-1))) (I) := by
  refine q_rt_of (by decide) (Nat.le_of_ble_eq_true rfl) fun Γ BM => ?_
  have B := BM.1
  show q_W Γ mX0_fillDrawer 0 0 Sh (I) 0 [(0, .ref b), (1, .int p), (2, .int m)] []
  refine q_aload_n B dX0_fillDrawer_0 rfl rfl ?_
  refine q_iload_n B dX0_fillDrawer_1 rfl rfl ?_
  refine q_rtV B (s_X0_partAt_no hc hp) kv_yX0_partAt ki_yX0_partAt ks_yX0_partAt km_X0_57 rfl (ci := 0) rfl rfl hc.1 (by decide) rfl (Nat.le_of_ble_eq_true rfl) dX0_fillDrawer_2 ?_
  refine q_astoreN_n B dX0_fillDrawer_5 rfl (Nat.le_of_ble_eq_true rfl) rfl ?_
  refine q_aloadN_n B dX0_fillDrawer_6 rfl rfl ?_
  refine q_ifnonnullN B dX0_fillDrawer_7 ?_
  refine q_iconst (v := -1) B dX0_fillDrawer_10 rfl ?_
  exact q_iret BM rfl dX0_fillDrawer_11 ⟨rfl, rfl, rfl⟩
set_option maxRecDepth 100000 in
set_option maxHeartbeats 4000000 in
theorem s_X0_fillDrawer {Sh : q_Sh} {I : q_Mem} {σ : a_A} {b T F : Nat} (hc : cOk Sh b) (hR : Rc T F b I σ) {j : Nat} {m : Int32} (hj : j < 8) : q_Rp mX0_fillDrawer 1 [.ref b, .int (nI j), .int m] Sh (I) (fun w I2 => Cg b I (a_refD (nI j) m) (σ (3 + j)) (upd σ (3 + j) m) w I2) := by
  refine q_rp_of (by decide) (Nat.le_of_ble_eq_true rfl) fun Γ BM => ?_
  have B := BM.1
  have hj7 : nI 0 ≤ nI j ∧ nI j ≤ nI 7 := ⟨q_le (Nat.zero_le j) (by omega), q_le (by omega) (by decide)⟩
  show q_W Γ mX0_fillDrawer 0 0 Sh (I) 0 [(0, .ref b), (1, .int (nI j)), (2, .int m)] []
  refine q_aload_n B dX0_fillDrawer_0 rfl rfl ?_
  refine q_iload_n B dX0_fillDrawer_1 rfl rfl ?_
  refine q_rtV B (s_X0_partAt hc hj) kv_yX0_partAt ki_yX0_partAt ks_yX0_partAt km_X0_57 rfl (ci := 0) rfl rfl hc.1 (by decide) rfl (Nat.le_of_ble_eq_true rfl) dX0_fillDrawer_2 ?_
  refine q_astore_n B dX0_fillDrawer_5 rfl (Nat.le_of_ble_eq_true rfl) rfl ?_
  refine q_aload_n B dX0_fillDrawer_6 rfl rfl ?_
  refine q_ifnonnull (tgt := 12) B dX0_fillDrawer_7 (by decide) ?_
  refine q_iload_n B dX0_fillDrawer_12 rfl rfl ?_
  refine q_if_lt (tgt := 22) B dX0_fillDrawer_13 (by decide) (fun c_13 => ?_) (fun c_13 => ?_)
  · skip
    have hrf : a_refD (nI j) m = -2 := by unfold a_refD; rw [if_neg (fun q => q hj7), if_neg (fun q => absurd c_13 (Int32.not_lt.mpr q.1))]
    refine q_bipush (v := -2) B dX0_fillDrawer_22 rfl ?_
    exact q_iret BM rfl dX0_fillDrawer_24 ⟨rfl, _, rfl, Or.inl ⟨by rw [hrf]; decide, hrf.symm, rfl⟩⟩
  · skip
    refine q_iload_n B dX0_fillDrawer_16 rfl rfl ?_
    refine q_bipush (v := nI 99) B dX0_fillDrawer_17 rfl ?_
    refine q_icmp_le (tgt := 25) B dX0_fillDrawer_19 (by decide) (fun c_19 => ?_) (fun c_19 => ?_)
    · skip
      have hmm : nI 0 ≤ m ∧ m ≤ nI 99 := ⟨Int32.not_lt.mp c_13, c_19⟩
      have hrf : a_refD (nI j) m = 0 := by unfold a_refD; rw [if_neg (fun q => q hj7), if_pos hmm]
      obtain ⟨mm, hmm2, rfl⟩ := a_in06 (a := nI 0) (b := nI 99) rfl rfl (by decide) hmm
      have hW2 := a_W_Q hR.2.2 hj hmm2
      refine q_aload_n B dX0_fillDrawer_25 rfl rfl ?_
      refine q_getI2 B kC_X3 (k := 0) (by decide) rfl kf_X0_79 (cP hc (i := j) hj) (hR.1.2.2.2.2 j hj).1 dX0_fillDrawer_26 ?_
      refine q_istore B dX0_fillDrawer_29 (Nat.le_of_ble_eq_true rfl) rfl ?_
      refine q_aload_n B dX0_fillDrawer_31 rfl rfl ?_
      refine q_iload_n B dX0_fillDrawer_32 rfl rfl ?_
      refine q_putI2 B kC_X3 (k := 0) (by decide) rfl kf_X0_79 rfl rfl rfl (cP hc (i := j) hj) dX0_fillDrawer_33 ?_
      refine q_iload B dX0_fillDrawer_36 rfl ?_
      exact q_iret BM rfl dX0_fillDrawer_38 ⟨rfl, _, rfl, Or.inr ⟨hrf, rfl, Rc.s (T := T) (F := F) ⟨Rd_P (k := 0) hR.1 hj (by decide), Rw_keep hR.2.1 hR.2.2 hW2 (Kw.P (by omega)) (fun g hg => q_upd_ne (by omega)), hW2⟩, Fr.set (by omega) (by omega)⟩⟩
    · skip
      have hrf : a_refD (nI j) m = -2 := by unfold a_refD; rw [if_neg (fun q => q hj7), if_neg (fun q => c_19 q.2)]
      refine q_bipush (v := -2) B dX0_fillDrawer_22 rfl ?_
      exact q_iret BM rfl dX0_fillDrawer_24 ⟨rfl, _, rfl, Or.inl ⟨by rw [hrf]; decide, hrf.symm, rfl⟩⟩
set_option maxRecDepth 100000 in
set_option maxHeartbeats 4000000 in
theorem s_X0_giveWaitingUp_no {Sh : q_Sh} {I : q_Mem} {σ : a_A} {b T F : Nat} (hc : cOk Sh b) (hR : Rc T F b I σ) {t : Int32} (ht : ¬ (0 ≤ t ∧ t < nI T)) : q_Rt mX0_giveWaitingUp 2 [.ref b, .int t] Sh (I) (some (.int (-1))) (I) := by
  refine q_rt_of (by decide) (Nat.le_of_ble_eq_true rfl) fun Γ BM => ?_
  have B := BM.1
  have hT := hR.1.2.1.2.1
  have hT2 := hR.1.1.1
  have hF := hR.1.2.1.2.2
  have hF2 := hR.1.1.2
  have haT := a_W_T hR.2.2
  have haF := a_W_F hR.2.2
  show q_W Γ mX0_giveWaitingUp 0 0 Sh (I) 0 [(0, .ref b), (1, .int t)] []
  refine q_aload_n B dX0_giveWaitingUp_0 rfl rfl ?_
  refine q_iload_n B dX0_giveWaitingUp_1 rfl rfl ?_
  refine q_rtV B (s_X0_thingAt_no hc hT ht) kv_yX0_thingAt ki_yX0_thingAt ks_yX0_thingAt km_X0_42 rfl (ci := 0) rfl rfl hc.1 (by decide) rfl (Nat.le_of_ble_eq_true rfl) dX0_giveWaitingUp_2 ?_
  refine q_astoreN_n B dX0_giveWaitingUp_5 rfl (Nat.le_of_ble_eq_true rfl) rfl ?_
  refine q_aloadN_n B dX0_giveWaitingUp_6 rfl rfl ?_
  refine q_ifnonnullN B dX0_giveWaitingUp_7 ?_
  refine q_iconst (v := -1) B dX0_giveWaitingUp_10 rfl ?_
  exact q_iret BM rfl dX0_giveWaitingUp_11 ⟨rfl, rfl, rfl⟩
set_option maxRecDepth 100000 in
set_option maxHeartbeats 4000000 in
theorem s_X0_giveWaitingUp {Sh : q_Sh} {I : q_Mem} {σ : a_A} {b T F : Nat} (hc : cOk Sh b) (hR : Rc T F b I σ) {t : Nat} (ht : t < T) : q_Rp mX0_giveWaitingUp 2 [.ref b, .int (nI t)] Sh (I) (fun w I2 => Cg b I (a_refG σ (nI t)) ((a_strips σ t).2) ((a_strips σ t).1) w I2) := by
  refine q_rp_of (by decide) (Nat.le_of_ble_eq_true rfl) fun Γ BM => ?_
  have B := BM.1
  have hT := hR.1.2.1.2.1
  have hT2 := hR.1.1.1
  have hF := hR.1.2.1.2.2
  have hF2 := hR.1.1.2
  have haT := a_W_T hR.2.2
  have haF := a_W_F hR.2.2
  have htt : nI 0 ≤ nI t ∧ nI t < σ 1 := ⟨q_le (Nat.zero_le t) (by omega), by rw [hR.2.2.1.1]; exact q_lt ht (by omega)⟩
  have hn : a_n (nI t) = t := nI_clamp (by omega)
  show q_W Γ mX0_giveWaitingUp 0 0 Sh (I) 0 [(0, .ref b), (1, .int (nI t))] []
  refine q_aload_n B dX0_giveWaitingUp_0 rfl rfl ?_
  refine q_iload_n B dX0_giveWaitingUp_1 rfl rfl ?_
  refine q_rtV B (s_X0_thingAt hc hT hT2 ht) kv_yX0_thingAt ki_yX0_thingAt ks_yX0_thingAt km_X0_42 rfl (ci := 0) rfl rfl hc.1 (by decide) rfl (Nat.le_of_ble_eq_true rfl) dX0_giveWaitingUp_2 ?_
  refine q_astore_n B dX0_giveWaitingUp_5 rfl (Nat.le_of_ble_eq_true rfl) rfl ?_
  refine q_aload_n B dX0_giveWaitingUp_6 rfl rfl ?_
  refine q_ifnonnull (tgt := 12) B dX0_giveWaitingUp_7 (by decide) ?_
  refine q_aload_n B dX0_giveWaitingUp_12 rfl rfl ?_
  refine q_getI2 B kC_X5 (k := 4) (by decide) rfl kf_X0_82 (cT hc (i := t) (by omega)) ((hR.1.2.2.1 t ht).1 4 (by decide)) dX0_giveWaitingUp_13 ?_
  refine q_if_eq (tgt := 22) B dX0_giveWaitingUp_16 (by decide) (fun c_16 => ?_) (fun c_16 => ?_)
  · skip
    have hrf : a_refG σ (nI t) = 0 := by unfold a_refG; rw [if_neg (fun q => q htt), hn, if_pos c_16]
    have hno := a_noF hR.2.2 ht (by rw [c_16]; decide)
    have hW2 := a_strips_W (t := t) hR.2.2 hno
    refine q_aload_n B dX0_giveWaitingUp_22 rfl rfl ?_
    refine q_aload_n B dX0_giveWaitingUp_23 rfl rfl ?_
    refine q_rpV B (s_X0_strip hc hR.1 hR.2.2 ht) kv_yX0_strip ki_yX0_strip ks_yX0_strip km_X0_85 rfl (ci := 0) rfl rfl hc.1 (by decide) rfl (Nat.le_of_ble_eq_true rfl) dX0_giveWaitingUp_24 (fun w J hx => ?_)
    obtain ⟨rfl, h1, h2, h3⟩ := hx
    exact q_iret BM rfl dX0_giveWaitingUp_27 ⟨rfl, _, rfl, Or.inr ⟨hrf, rfl, Rc.s (T := T) (F := F) ⟨h1, Rw_gone2 hR.2.1 hR.2.2 hW2 h2 ht (by rw [c_16]; decide) (fun g hg => a_strips_at (by omega) (by omega)), hW2⟩, h3⟩⟩
  · skip
    have hrf : a_refG σ (nI t) = -5 := by unfold a_refG; rw [if_neg (fun q => q htt), hn, if_neg c_16]
    refine q_bipush (v := -5) B dX0_giveWaitingUp_19 rfl ?_
    exact q_iret BM rfl dX0_giveWaitingUp_21 ⟨rfl, _, rfl, Or.inl ⟨by rw [hrf]; decide, hrf.symm, rfl⟩⟩
set_option maxRecDepth 100000 in
set_option maxHeartbeats 4000000 in
theorem s_X0_copyFrom {Sh : q_Sh} {I : q_Mem} {σ : a_A} {b c T F : Nat} (hc : cOk Sh b) (hcc : cOk Sh c) (hR : Rc T F c I σ) (hd : b + 47 ≤ c ∨ c + 47 ≤ b) : q_Rp mX0_copyFrom 1 [.ref b, .ref c] Sh (I) (fun w I2 => w = none ∧ Rc T F b I2 σ ∧ Fr b I I2) := by
  refine q_rp_of (by decide) (Nat.le_of_ble_eq_true rfl) fun Γ BM => ?_
  have B := BM.1
  have hT := hR.1.2.1.2.1
  have hT2 := hR.1.1.1
  have hF := hR.1.2.1.2.2
  have hF2 := hR.1.1.2
  have haT := a_W_T hR.2.2
  have haF := a_W_F hR.2.2
  show q_W Γ mX0_copyFrom 0 0 Sh (I) 0 [(0, .ref b), (1, .ref c)] []
  refine q_aload_n B dX0_copyFrom_0 rfl rfl ?_
  refine q_aload_n B dX0_copyFrom_1 rfl rfl ?_
  refine q_getI2 B kC_X0 (k := 0) (by decide) rfl kf_X0_9 hcc.1 rfl dX0_copyFrom_2 ?_
  refine q_putI2 B kC_X0 (k := 0) (by decide) rfl kf_X0_9 rfl rfl rfl hc.1 dX0_copyFrom_5 ?_
  refine q_aload_n B dX0_copyFrom_8 rfl rfl ?_
  refine q_aload_n B dX0_copyFrom_9 rfl rfl ?_
  refine q_getI2 B kC_X0 (k := 1) (by decide) rfl kf_X0_15 hcc.1 ((congrFun (q_setA_ne (by omega)) 1).trans hT) dX0_copyFrom_10 ?_
  refine q_putI2 B kC_X0 (k := 1) (by decide) rfl kf_X0_15 rfl rfl rfl hc.1 dX0_copyFrom_13 ?_
  refine q_aload_n B dX0_copyFrom_16 rfl rfl ?_
  refine q_aload_n B dX0_copyFrom_17 rfl rfl ?_
  refine q_getI2 B kC_X0 (k := 2) (by decide) rfl kf_X0_18 hcc.1 ((congrFun (q_setA_ne (by omega)) 2).trans ((congrFun (q_setA_ne (by omega)) 2).trans hF)) dX0_copyFrom_18 ?_
  refine q_putI2 B kC_X0 (k := 2) (by decide) rfl kf_X0_18 rfl rfl rfl hc.1 dX0_copyFrom_21 ?_
  refine q_iconst (v := 0) B dX0_copyFrom_24 rfl ?_
  refine q_istore_n B dX0_copyFrom_25 rfl (Nat.le_of_ble_eq_true rfl) rfl ?_
  have hl_26 : ∀ (n i : Nat) (J : q_Mem), i + n = 30 → (Cp T F b c I J i 0 0 ∧ Fr b I J) → q_W Γ mX0_copyFrom 0 0 Sh J 26 [(0, .ref b), (1, .ref c), (2, .int (nI i))] [] := by
    intro n
    induction n with
    | zero =>
      intro i J hin hinv
      have hi : i = 30 := by omega
      subst hi
      obtain ⟨hC1, hF1⟩ := hinv
      refine q_iload_n B dX0_copyFrom_26 rfl rfl ?_
      refine q_bipush (v := nI 30) B dX0_copyFrom_27 rfl ?_
      refine q_icmp_ge (tgt := 57) B dX0_copyFrom_29 (by decide) (fun _ => ?_) (fun h => absurd (q_le (Nat.le_refl _) (by decide)) h)
      refine q_iconst (v := 0) B dX0_copyFrom_57 rfl ?_
      refine q_istore_n B dX0_copyFrom_58 rfl (Nat.le_of_ble_eq_true rfl) rfl ?_
      have hl_59 : ∀ (n i : Nat) (J : q_Mem), i + n = 5 → (Cp T F b c I J 30 i 0 ∧ Fr b I J) → q_W Γ mX0_copyFrom 0 0 Sh J 59 [(0, .ref b), (1, .ref c), (2, .int (nI i))] [] := by
        intro n
        induction n with
        | zero =>
          intro i J hin hinv
          have hi : i = 5 := by omega
          subst hi
          obtain ⟨hC1, hF1⟩ := hinv
          refine q_iload_n B dX0_copyFrom_59 rfl rfl ?_
          refine q_iconst (v := nI 5) B dX0_copyFrom_60 rfl ?_
          refine q_icmp_ge (tgt := 89) B dX0_copyFrom_61 (by decide) (fun _ => ?_) (fun h => absurd (q_le (Nat.le_refl _) (by decide)) h)
          refine q_iconst (v := 0) B dX0_copyFrom_89 rfl ?_
          refine q_istore_n B dX0_copyFrom_90 rfl (Nat.le_of_ble_eq_true rfl) rfl ?_
          have hl_91 : ∀ (n i : Nat) (J : q_Mem), i + n = 8 → (Cp T F b c I J 30 5 i ∧ Fr b I J) → q_W Γ mX0_copyFrom 0 0 Sh J 91 [(0, .ref b), (1, .ref c), (2, .int (nI i))] [] := by
            intro n
            induction n with
            | zero =>
              intro i J hin hinv
              have hi : i = 8 := by omega
              subst hi
              obtain ⟨hC1, hF1⟩ := hinv
              refine q_iload_n B dX0_copyFrom_91 rfl rfl ?_
              refine q_bipush (v := nI 8) B dX0_copyFrom_92 rfl ?_
              refine q_icmp_ge (tgt := 122) B dX0_copyFrom_94 (by decide) (fun _ => ?_) (fun h => absurd (q_le (Nat.le_refl _) (by decide)) h)
              exact q_vret BM rfl dX0_copyFrom_122 ⟨rfl, rfl, hC1.fin hR, hF1⟩
            | succ n ih =>
              intro i J hin hinv
              have hiN : i < 8 := by omega
              obtain ⟨hC1, hF1⟩ := hinv
              refine q_iload_n B dX0_copyFrom_91 rfl rfl ?_
              refine q_bipush (v := nI 8) B dX0_copyFrom_92 rfl ?_
              refine q_icmp_ge (tgt := 122) B dX0_copyFrom_94 (by decide) (fun h => absurd h (q_nle hiN (by decide))) (fun _ => ?_)
              refine q_aload_n B dX0_copyFrom_97 rfl rfl ?_
              refine q_iload_n B dX0_copyFrom_98 rfl rfl ?_
              refine q_rtV B (s_X0_partAt hc hiN) kv_yX0_partAt ki_yX0_partAt ks_yX0_partAt km_X0_57 rfl (ci := 0) rfl rfl hc.1 (by decide) rfl (Nat.le_of_ble_eq_true rfl) dX0_copyFrom_99 ?_
              refine q_astore_n B dX0_copyFrom_102 rfl (Nat.le_of_ble_eq_true rfl) rfl ?_
              refine q_aload_n B dX0_copyFrom_103 rfl rfl ?_
              refine q_ifnull B dX0_copyFrom_104 ?_
              refine q_aload_n B dX0_copyFrom_107 rfl rfl ?_
              refine q_aload_n B dX0_copyFrom_108 rfl rfl ?_
              refine q_iload_n B dX0_copyFrom_109 rfl rfl ?_
              refine q_rtV B (s_X0_partAt hcc hiN) kv_yX0_partAt ki_yX0_partAt ks_yX0_partAt km_X0_57 rfl (ci := 0) rfl rfl hcc.1 (by decide) rfl (Nat.le_of_ble_eq_true rfl) dX0_copyFrom_110 ?_
              refine q_rtV B (s_cp3 (cP hc (i := i) (by omega)) (cP hcc (i := i) (by omega)) (by omega)) kv_yX3_copyFrom ki_yX3_copyFrom ks_yX3_copyFrom km_X0_61 rfl (ci := 3) rfl rfl (cP hc (i := i) hiN) (by decide) rfl (Nat.le_of_ble_eq_true rfl) dX0_copyFrom_113 ?_
              refine q_iinc2 (y := nI (i + 1)) B dX0_copyFrom_116 rfl (q_inc1 _) (Nat.le_of_ble_eq_true rfl) rfl ?_
              refine q_goto (tgt := 91) B dX0_copyFrom_119 (by decide) ?_
              exact q_tk (ih (i + 1) (q_setA J (b + 39 + i) (a_cp 3 (J (c + 39 + i)) (J (b + 39 + i)))) (by omega) ⟨Cp.b3 hC1 ⟨rfl, hiN, fun k hk => by rw [a_cp_is hk, hF1 (c + 39 + i) (by omega)]⟩, hF1.tr (Fr.set (by omega) (by omega))⟩) rfl (q_ac rfl (q_ac rfl (q_ac rfl q_an)))
          exact q_tk (hl_91 8 0 J (by omega) ⟨hC1, hF1⟩) rfl (q_ac rfl (q_ac rfl (q_ac rfl q_an)))
        | succ n ih =>
          intro i J hin hinv
          have hiN : i < 5 := by omega
          obtain ⟨hC1, hF1⟩ := hinv
          refine q_iload_n B dX0_copyFrom_59 rfl rfl ?_
          refine q_iconst (v := nI 5) B dX0_copyFrom_60 rfl ?_
          refine q_icmp_ge (tgt := 89) B dX0_copyFrom_61 (by decide) (fun h => absurd h (q_nle hiN (by decide))) (fun _ => ?_)
          refine q_aload_n B dX0_copyFrom_64 rfl rfl ?_
          refine q_iload_n B dX0_copyFrom_65 rfl rfl ?_
          refine q_rtV B (s_fixerOpt hc hC1.1.2.2 hF2 (by omega)) kv_yX0_fixerAt ki_yX0_fixerAt ks_yX0_fixerAt km_X0_50 rfl (ci := 0) rfl rfl hc.1 (by decide) rfl (Nat.le_of_ble_eq_true rfl) dX0_copyFrom_66 ?_
          by_cases hiT : i < F
          · rw [if_pos hiT]
            refine q_astore_n B dX0_copyFrom_69 rfl (Nat.le_of_ble_eq_true rfl) rfl ?_
            refine q_aload_n B dX0_copyFrom_70 rfl rfl ?_
            refine q_ifnull B dX0_copyFrom_71 ?_
            refine q_aload_n B dX0_copyFrom_74 rfl rfl ?_
            refine q_aload_n B dX0_copyFrom_75 rfl rfl ?_
            refine q_iload_n B dX0_copyFrom_76 rfl rfl ?_
            refine q_rtV B (s_X0_fixerAt hcc (show J c 2 = nI F by rw [hF1 c (by omega)]; exact hF) hF2 hiT) kv_yX0_fixerAt ki_yX0_fixerAt ks_yX0_fixerAt km_X0_50 rfl (ci := 0) rfl rfl hcc.1 (by decide) rfl (Nat.le_of_ble_eq_true rfl) dX0_copyFrom_77 ?_
            refine q_rtV B (s_cp1 (cF hc (i := i) (by omega)) (cF hcc (i := i) (by omega)) (by omega)) kv_yX1_copyFrom ki_yX1_copyFrom ks_yX1_copyFrom km_X0_54 rfl (ci := 1) rfl rfl (cF hc (i := i) (by omega)) (by decide) rfl (Nat.le_of_ble_eq_true rfl) dX0_copyFrom_80 ?_
            refine q_iinc2 (y := nI (i + 1)) B dX0_copyFrom_83 rfl (q_inc1 _) (Nat.le_of_ble_eq_true rfl) rfl ?_
            refine q_goto (tgt := 59) B dX0_copyFrom_86 (by decide) ?_
            first
              | exact q_tk (ih (i + 1) (q_setA J (b + 34 + i) (a_cp 6 (J (c + 34 + i)) (J (b + 34 + i)))) (by omega) ⟨Cp.b2 hC1 ⟨rfl, rfl, hiN, fun k hk => by rw [a_cp_is hk, hF1 (c + 34 + i) (by omega)]⟩, hF1.tr (Fr.set (by omega) (by omega))⟩) rfl (q_ac rfl (q_ac rfl (q_ac rfl q_an)))
              | exact q_tk (ih (i + 1) (J) (by omega) ⟨Cp.n2 hC1 hiT, hF1⟩) rfl (q_ac rfl (q_ac rfl (q_ac rfl q_an)))
          · rw [if_neg hiT]
            refine q_astoreN_n B dX0_copyFrom_69 rfl (Nat.le_of_ble_eq_true rfl) rfl ?_
            refine q_aloadN_n B dX0_copyFrom_70 rfl rfl ?_
            refine q_ifnullN (tgt := 83) B dX0_copyFrom_71 (by decide) ?_
            refine q_iinc2 (y := nI (i + 1)) B dX0_copyFrom_83 rfl (q_inc1 _) (Nat.le_of_ble_eq_true rfl) rfl ?_
            refine q_goto (tgt := 59) B dX0_copyFrom_86 (by decide) ?_
            first
              | exact q_tk (ih (i + 1) (q_setA J (b + 34 + i) (a_cp 6 (J (c + 34 + i)) (J (b + 34 + i)))) (by omega) ⟨Cp.b2 hC1 ⟨rfl, rfl, hiN, fun k hk => by rw [a_cp_is hk, hF1 (c + 34 + i) (by omega)]⟩, hF1.tr (Fr.set (by omega) (by omega))⟩) rfl (q_ac rfl (q_ac rfl (q_ac rfl q_an)))
              | exact q_tk (ih (i + 1) (J) (by omega) ⟨Cp.n2 hC1 hiT, hF1⟩) rfl (q_ac rfl (q_ac rfl (q_ac rfl q_an)))
      exact q_tk (hl_59 5 0 J (by omega) ⟨hC1, hF1⟩) rfl (q_ac rfl (q_ac rfl (q_ac rfl q_an)))
    | succ n ih =>
      intro i J hin hinv
      have hiN : i < 30 := by omega
      obtain ⟨hC1, hF1⟩ := hinv
      refine q_iload_n B dX0_copyFrom_26 rfl rfl ?_
      refine q_bipush (v := nI 30) B dX0_copyFrom_27 rfl ?_
      refine q_icmp_ge (tgt := 57) B dX0_copyFrom_29 (by decide) (fun h => absurd h (q_nle hiN (by decide))) (fun _ => ?_)
      refine q_aload_n B dX0_copyFrom_32 rfl rfl ?_
      refine q_iload_n B dX0_copyFrom_33 rfl rfl ?_
      refine q_rtV B (s_thingOpt hc hC1.1.2.1 hT2 (by omega)) kv_yX0_thingAt ki_yX0_thingAt ks_yX0_thingAt km_X0_42 rfl (ci := 0) rfl rfl hc.1 (by decide) rfl (Nat.le_of_ble_eq_true rfl) dX0_copyFrom_34 ?_
      by_cases hiT : i < T
      · rw [if_pos hiT]
        refine q_astore_n B dX0_copyFrom_37 rfl (Nat.le_of_ble_eq_true rfl) rfl ?_
        refine q_aload_n B dX0_copyFrom_38 rfl rfl ?_
        refine q_ifnull B dX0_copyFrom_39 ?_
        refine q_aload_n B dX0_copyFrom_42 rfl rfl ?_
        refine q_aload_n B dX0_copyFrom_43 rfl rfl ?_
        refine q_iload_n B dX0_copyFrom_44 rfl rfl ?_
        refine q_rtV B (s_X0_thingAt hcc (show J c 1 = nI T by rw [hF1 c (by omega)]; exact hT) hT2 hiT) kv_yX0_thingAt ki_yX0_thingAt ks_yX0_thingAt km_X0_42 rfl (ci := 0) rfl rfl hcc.1 (by decide) rfl (Nat.le_of_ble_eq_true rfl) dX0_copyFrom_45 ?_
        refine q_rtV B (s_cp5 (cT hc (i := i) (by omega)) (cT hcc (i := i) (by omega)) (by omega)) kv_yX5_copyFrom ki_yX5_copyFrom ks_yX5_copyFrom km_X0_46 rfl (ci := 5) rfl rfl (cT hc (i := i) (by omega)) (by decide) rfl (Nat.le_of_ble_eq_true rfl) dX0_copyFrom_48 ?_
        refine q_iinc2 (y := nI (i + 1)) B dX0_copyFrom_51 rfl (q_inc1 _) (Nat.le_of_ble_eq_true rfl) rfl ?_
        refine q_goto (tgt := 26) B dX0_copyFrom_54 (by decide) ?_
        first
          | exact q_tk (ih (i + 1) (q_setA J (b + 4 + i) (a_cp 8 (J (c + 4 + i)) (J (b + 4 + i)))) (by omega) ⟨Cp.b hC1 ⟨rfl, rfl, rfl, hiN, fun k hk => by rw [a_cp_is hk, hF1 (c + 4 + i) (by omega)]⟩, hF1.tr (Fr.set (by omega) (by omega))⟩) rfl (q_ac rfl (q_ac rfl (q_ac rfl q_an)))
          | exact q_tk (ih (i + 1) (J) (by omega) ⟨Cp.n1 hC1 hiT, hF1⟩) rfl (q_ac rfl (q_ac rfl (q_ac rfl q_an)))
      · rw [if_neg hiT]
        refine q_astoreN_n B dX0_copyFrom_37 rfl (Nat.le_of_ble_eq_true rfl) rfl ?_
        refine q_aloadN_n B dX0_copyFrom_38 rfl rfl ?_
        refine q_ifnullN (tgt := 51) B dX0_copyFrom_39 (by decide) ?_
        refine q_iinc2 (y := nI (i + 1)) B dX0_copyFrom_51 rfl (q_inc1 _) (Nat.le_of_ble_eq_true rfl) rfl ?_
        refine q_goto (tgt := 26) B dX0_copyFrom_54 (by decide) ?_
        first
          | exact q_tk (ih (i + 1) (q_setA J (b + 4 + i) (a_cp 8 (J (c + 4 + i)) (J (b + 4 + i)))) (by omega) ⟨Cp.b hC1 ⟨rfl, rfl, rfl, hiN, fun k hk => by rw [a_cp_is hk, hF1 (c + 4 + i) (by omega)]⟩, hF1.tr (Fr.set (by omega) (by omega))⟩) rfl (q_ac rfl (q_ac rfl (q_ac rfl q_an)))
          | exact q_tk (ih (i + 1) (J) (by omega) ⟨Cp.n1 hC1 hiT, hF1⟩) rfl (q_ac rfl (q_ac rfl (q_ac rfl q_an)))
  exact q_tk (hl_26 30 0 (q_setA (q_setA (q_setA I b (upd (I b) 0 (I c 0))) b (upd (q_setA I b (upd (I b) 0 (I c 0)) b) 1 (nI T))) b (upd (q_setA (q_setA I b (upd (I b) 0 (I c 0))) b (upd (q_setA I b (upd (I b) 0 (I c 0)) b) 1 (nI T)) b) 2 (nI F))) (by omega) ⟨⟨⟨by simp [q_setA, upd], by simp [q_setA, upd], by simp [q_setA, upd]⟩, fun i hi => absurd hi (Nat.not_lt_zero i), fun i hi => absurd hi (Nat.not_lt_zero i), fun i hi => absurd hi (Nat.not_lt_zero i)⟩, ((Fr.set (Nat.le_refl _) (by omega)).tr (Fr.set (Nat.le_refl _) (by omega))).tr (Fr.set (Nat.le_refl _) (by omega))⟩) rfl (q_ac rfl (q_ac rfl (q_ac rfl q_an)))
