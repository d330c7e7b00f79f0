/-! who works on what, and how many are so -/
theorem a_first_congr {P Q : Nat → Bool} : ∀ n i, (∀ j, i ≤ j → j < i + n → P j = Q j) → a_first P n i = a_first Q n i := by
  intro n
  induction n with
  | zero => intro i _; rfl
  | succ n ih =>
    intro i h
    show (if P i = true then nI i else a_first P n (i + 1)) = if Q i = true then nI i else a_first Q n (i + 1)
    rw [h i (Nat.le_refl i) (by omega), ih (i + 1) (fun j h1 h2 => h j (by omega) (by omega))]
theorem a_first_none {P : Nat → Bool} : ∀ n i, (∀ j, i ≤ j → j < i + n → P j = false) → a_first P n i = -6 := by
  intro n
  induction n with
  | zero => intro i _; rfl
  | succ n ih =>
    intro i h
    show (if P i = true then nI i else a_first P n (i + 1)) = -6
    rw [h i (Nat.le_refl i) (by omega), if_neg Bool.false_ne_true]
    exact ih (i + 1) (fun j h1 h2 => h j (by omega) (by omega))
theorem a_first_some {P : Nat → Bool} {f : Nat} (hP : P f = true) : ∀ n i, i ≤ f → f < i + n → (∀ j, i ≤ j → j < i + n → P j = true → j = f) → a_first P n i = nI f := by
  intro n
  induction n with
  | zero => intro i h1 h2 _; omega
  | succ n ih =>
    intro i h1 h2 h
    show (if P i = true then nI i else a_first P n (i + 1)) = nI f
    by_cases e : P i = true
    · rw [if_pos e, h i (Nat.le_refl i) (by omega) e]
    · rw [if_neg e]
      have hne : i ≠ f := fun q => e (by rw [q]; exact hP)
      exact ih (i + 1) (by omega) (by omega) (fun j h3 h4 => h j (by omega) (by omega))
theorem a_inc (i : Nat) : nI i + 1 = nI (i + 1) := q_inc1 i
theorem a_fo_congr {T F i : Nat} {σ σ' : a_A} (hW : a_W T F σ) (hW' : a_W T F σ') (h : ∀ g, g < F → (σ' (27 + 6 * g + 2) = nI (i + 1) ↔ σ (27 + 6 * g + 2) = nI (i + 1))) : a_fixerOf σ' (nI i) = a_fixerOf σ (nI i) := by
  unfold a_fixerOf
  rw [a_W_F hW, a_W_F hW', a_inc]
  refine a_first_congr F 0 fun j _ hj => ?_
  have := h j (by omega)
  by_cases e : σ (27 + 6 * j + 2) = nI (i + 1)
  · rw [decide_eq_true e, decide_eq_true (this.mpr e)]
  · rw [decide_eq_false e, decide_eq_false (fun q => e (this.mp q))]
theorem a_fo_none {T F i : Nat} {σ : a_A} (hW : a_W T F σ) (h : ∀ g, g < F → σ (27 + 6 * g + 2) ≠ nI (i + 1)) : a_fixerOf σ (nI i) = -6 := by
  unfold a_fixerOf
  rw [a_W_F hW, a_inc]
  exact a_first_none F 0 fun j _ hj => decide_eq_false (h j (by omega))
theorem a_fo_some {T F i f : Nat} {σ : a_A} (hW : a_W T F σ) (hi : i < T) (hf : f < F) (h : σ (27 + 6 * f + 2) = nI (i + 1)) : a_fixerOf σ (nI i) = nI f := by
  unfold a_fixerOf
  rw [a_W_F hW, a_inc]
  have hT := hW.1.2
  refine a_first_some (decide_eq_true h) F 0 (Nat.zero_le f) (by omega) fun j _ hj q => ?_
  have q := of_decide_eq_true q
  exact hW.2.2.2.2.2.2.2.1 j f (by omega) hf (q.trans h.symm) (by rw [q]; exact nI_ne0 (by omega) (by omega))
theorem a_tk0 {h : Nat} (hh : h ≤ 30) : tk (nI h) = -6 ↔ nI h = 0 := by
  have key : ∀ h, h ≤ 30 → (tk (nI h) = -6 ↔ nI h = 0) := by decide +kernel
  exact key h hh
theorem a_tk1 {h : Nat} (hh : h < 30) : tk (nI (h + 1)) = nI h := by
  have key : ∀ h, h < 30 → tk (nI (h + 1)) = nI h := by decide +kernel
  exact key h hh
theorem a_tk2 {h : Nat} (hh : h < 30) : tk (nI h + 1) = nI h := by rw [a_inc]; exact a_tk1 hh
theorem Rw_keep {T F b : Nat} {I J : q_Mem} {σ σ' : a_A} (h : Rw T b I σ) (hW : a_W T F σ) (hW' : a_W T F σ') (k : Kw b I J) (e : ∀ g, g < F → σ' (27 + 6 * g + 2) = σ (27 + 6 * g + 2)) : Rw T b J σ' := fun i hi => by
  have hT := hW.1.2
  rw [k i (by omega), h i hi]
  exact (a_fo_congr hW hW' (fun g hg => by rw [e g hg])).symm
theorem Rw_gone {T F b t f : Nat} {I J : q_Mem} {σ σ' : a_A} (h : Rw T b I σ) (hW : a_W T F σ) (hW' : a_W T F σ') (k : Kx b t I J) (hf : f < F) (hh : σ (27 + 6 * f + 2) = nI (t + 1)) (ht : t < T) (h0 : σ' (27 + 6 * f + 2) = 0) (e : ∀ g, g < F → g ≠ f → σ' (27 + 6 * g + 2) = σ (27 + 6 * g + 2)) : Rw T b J σ' := fun i hi => by
  have hT := hW.1.2
  rw [k i (by omega)]
  by_cases e1 : i = t
  · subst e1
    rw [if_pos rfl]
    refine (a_fo_none hW' fun g hg q => ?_).symm
    by_cases e2 : g = f
    · subst e2; rw [h0] at q; exact nI_ne0 (n := i + 1) (by omega) (by omega) q.symm
    · rw [e g hg e2] at q
      exact e2 (hW.2.2.2.2.2.2.2.1 g f hg hf (q.trans hh.symm) (by rw [q]; exact nI_ne0 (by omega) (by omega)))
  · rw [if_neg e1, h i hi]
    refine (a_fo_congr hW hW' fun g hg => ?_).symm
    by_cases e2 : g = f
    · subst e2
      rw [h0, hh]
      exact ⟨fun q => absurd q.symm (nI_ne0 (n := i + 1) (by omega) (by omega)), fun q => absurd ((nI_eq (by omega) (by omega)).mp q) (by omega)⟩
    · rw [e g hg e2]
/-- one who waits or is gone has no fixer -/
theorem a_noF {T F t : Nat} {σ : a_A} (hW : a_W T F σ) (ht : t < T) (hh : ¬ σ (57 + 7 * t + 4) = nI 1) : ∀ g, g < F → σ (27 + 6 * g + 2) ≠ nI (t + 1) := fun g hg q => by
  have hT := hW.1.2
  obtain ⟨y, a, b, c⟩ := hW.2.2.2.2.2.2.1 g hg
  have e : y = t + 1 := (nI_eq (by omega) (by omega)).mp (b.symm.trans q)
  exact hh (c t e)
theorem Rw_gone2 {T F b t : Nat} {I J : q_Mem} {σ σ' : a_A} (h : Rw T b I σ) (hW : a_W T F σ) (hW' : a_W T F σ') (k : Kx b t I J) (ht : t < T) (hh : ¬ σ (57 + 7 * t + 4) = nI 1) (e : ∀ g, g < F → σ' (27 + 6 * g + 2) = σ (27 + 6 * g + 2)) : Rw T b J σ' := fun i hi => by
  have hT := hW.1.2
  rw [k i (by omega)]
  by_cases e1 : i = t
  · subst e1
    rw [if_pos rfl]
    exact (a_fo_none hW' fun g hg q => a_noF hW ht hh g hg (by rw [← e g hg]; exact q)).symm
  · rw [if_neg e1, h i hi]
    exact (a_fo_congr hW hW' (fun g hg => by rw [e g hg])).symm
theorem Rw_take {T F b t f : Nat} {I J : q_Mem} {σ σ' : a_A} (h : Rw T b I σ) (hW : a_W T F σ) (hW' : a_W T F σ') (hf : f < F) (h0 : σ (27 + 6 * f + 2) = 0) (hh : σ' (27 + 6 * f + 2) = nI (t + 1)) (ht : t < T) (e : ∀ g, g < F → g ≠ f → σ' (27 + 6 * g + 2) = σ (27 + 6 * g + 2)) (k : ∀ i, i < 30 → J (b + 4 + i) 5 = if i = t then nI f else I (b + 4 + i) 5) : Rw T b J σ' := fun i hi => by
  have hT := hW.1.2
  rw [k i (by omega)]
  by_cases e1 : i = t
  · subst e1
    rw [if_pos rfl]
    exact (a_fo_some hW' hi hf hh).symm
  · rw [if_neg e1, h i hi]
    refine (a_fo_congr hW hW' fun g hg => ?_).symm
    by_cases e2 : g = f
    · subst e2
      rw [h0, hh]
      exact ⟨fun q => absurd ((nI_eq (by omega) (by omega)).mp q) (by omega), fun q => absurd q.symm (nI_ne0 (n := i + 1) (by omega) (by omega))⟩
    · rw [e g hg e2]
theorem a_sum1 {g g' : Nat → Int32} {t : Nat} (h : ∀ i, i ≠ t → g' i = g i) : ∀ n, (n ≤ t → q_fold (fun i (n : Int32) => n + g' i) n 0 = q_fold (fun i (n : Int32) => n + g i) n 0) ∧ (t < n → q_fold (fun i (n : Int32) => n + g' i) n 0 = q_fold (fun i (n : Int32) => n + g i) n 0 + (g' t - g t)) := by
  intro n
  induction n with
  | zero => exact ⟨fun _ => rfl, fun q => absurd q (Nat.not_lt_zero t)⟩
  | succ n ih =>
    constructor
    · intro q
      show q_fold (fun i (n : Int32) => n + g' i) n 0 + g' n = q_fold (fun i (n : Int32) => n + g i) n 0 + g n
      rw [ih.1 (by omega), h n (by omega)]
    · intro q
      show q_fold (fun i (n : Int32) => n + g' i) n 0 + g' n = (q_fold (fun i (n : Int32) => n + g i) n 0 + g n) + (g' t - g t)
      by_cases e : n = t
      · subst e
        rw [ih.1 (Nat.le_refl n), Int32.add_assoc]
        congr 1
        rw [Int32.sub_eq_add_neg, Int32.add_comm (g n), Int32.add_assoc, Int32.add_left_neg, Int32.add_zero]
      · rw [ih.2 (by omega), h n e, Int32.add_assoc, Int32.add_assoc, Int32.add_comm (g' t - g t)]
theorem a_how_congr {T F : Nat} {σ σ' : a_A} {h : Int32} (hW : a_W T F σ) (hW' : a_W T F σ') (e : ∀ i, i < T → σ' (57 + 7 * i + 4) = σ (57 + 7 * i + 4)) : a_how σ' h = a_how σ h := by
  unfold a_how
  rw [a_W_T hW, a_W_T hW']
  have key : ∀ n, n ≤ T → q_fold (fun i (n : Int32) => n + (if σ' (57 + 7 * i + 4) = h then 1 else 0)) n 0 = q_fold (fun i (n : Int32) => n + (if σ (57 + 7 * i + 4) = h then 1 else 0)) n 0 := by
    intro n
    induction n with
    | zero => intro _; rfl
    | succ n ih => intro q; show _ + _ = _ + _; rw [ih (by omega), e n (by omega)]
  exact key T (Nat.le_refl T)
theorem a_how_one {T F t : Nat} {σ σ' : a_A} {h : Int32} (hW : a_W T F σ) (hW' : a_W T F σ') (ht : t < T) (e : ∀ i, i ≠ t → σ' (57 + 7 * i + 4) = σ (57 + 7 * i + 4)) : a_how σ' h = a_how σ h + ((if σ' (57 + 7 * t + 4) = h then 1 else 0) - (if σ (57 + 7 * t + 4) = h then 1 else 0)) := by
  unfold a_how
  rw [a_W_T hW, a_W_T hW']
  exact (a_sum1 (g := fun i => if σ (57 + 7 * i + 4) = h then 1 else 0) (g' := fun i => if σ' (57 + 7 * i + 4) = h then 1 else 0) (fun i hi => by show (if _ then _ else _) = _; rw [e i hi]) T).2 ht
theorem a_add_sub (x y : Int32) : x + y - x = y := by rw [Int32.sub_eq_add_neg, Int32.add_comm x, Int32.add_assoc, ← Int32.sub_eq_add_neg, Int32.sub_self, Int32.add_zero]
/-- a test, as the reference has it -/
theorem s_tt {Sh : q_Sh} {I : q_Mem} {σ : a_A} {b T F : Nat} (hc : cOk Sh b) (hR : Rd T F b I σ) {t f : Nat} (ht : t < T) (hz : σ (57 + 7 * t + 1) = 0) : q_Rp mX5_tryTest 0 [.ref (b + 4 + t), .int (σ 0), .int (σ (27 + 6 * f + 1))] Sh I (fun w I2 => w = some (.int (a_work1 σ f t).2) ∧ Rd T F b I2 (a_work1 σ f t).1 ∧ Kw b I I2 ∧ Fr b I I2) := by
  have hT := hR.1.1
  have hb := cT hc (show t < 30 by omega)
  obtain ⟨e1, e6, e7⟩ := hR.2.2.1 t ht
  have e0 : I (b + 4 + t) 0 = σ (57 + 7 * t) := e1 0 (by decide)
  have eb : I (b + 4 + t) 1 = σ (57 + 7 * t + 1) := e1 1 (by decide)
  have e3 : I (b + 4 + t) 3 = σ (57 + 7 * t + 3) := e1 3 (by decide)
  unfold a_work1
  rw [if_pos hz]
  by_cases h3 : σ (57 + 7 * t + 3) = 0
  · rw [if_pos h3]
    have h := s_X5_tryTest0 (I := I) (ob := I (b + 4 + t)) hb (x := σ 0) (y := σ (27 + 6 * f + 1)) (by rw [e3]; exact h3)
    rw [q_setA_self] at h
    exact q_rp_mono (q_rt_rp h) fun v J q => by obtain ⟨rfl, rfl⟩ := q; exact ⟨rfl, hR, Kw.rf, Fr.rf⟩
  · rw [if_neg h3]
    unfold a_test
    dsimp only
    by_cases h4 : ((σ 0 + σ (27 + 6 * f + 1)) + σ (57 + 7 * t)) - ((σ 0 + σ (27 + 6 * f + 1)) + σ (57 + 7 * t)) / nI 3 * nI 3 = 0
    · rw [if_pos h4]
      have h := s_X5_tryTest2 (I := I) (ob := I (b + 4 + t)) hb (x := σ 0) (y := σ (27 + 6 * f + 1)) (by rw [e3]; exact h3) (by rw [e0]; exact h4)
      rw [q_setA_self, e0, eb, e6] at h
      have h2 := Rd_T6 (k := 5) (v := σ (57 + 7 * t + 5) + 1) (Rd_T (k := 1) (v := σ (57 + 7 * t + 1) ||| (nI 1 <<< (σ (57 + 7 * t) &&& 31))) hR (show t < 30 by omega) (by decide)) (show t < 30 by omega) (Or.inl rfl)
      rw [q_setA_setA, q_setA_at] at h2
      exact q_rp_mono (q_rt_rp h) fun v J q => by
        obtain ⟨rfl, rfl⟩ := q
        refine ⟨rfl, h2, fun i hi => ?_, Fr.set (by omega) (by omega)⟩
        by_cases e : i = t
        · subst e; rw [q_setA_at, q_upd_ne (by decide), q_upd_ne (by decide)]
        · rw [q_setA_ne (by omega)]
    · rw [if_neg h4]
      have h := s_X5_tryTest1 (I := I) (ob := I (b + 4 + t)) hb (x := σ 0) (y := σ (27 + 6 * f + 1)) (by rw [e3]; exact h3) (by rw [e0]; exact h4)
      rw [q_setA_self, e3] at h
      have h2 := Rd_T (k := 3) (v := σ (57 + 7 * t + 3) &&& (σ (57 + 7 * t + 3) - 1)) hR (show t < 30 by omega) (by decide)
      exact q_rp_mono (q_rt_rp h) fun v J q => by obtain ⟨rfl, rfl⟩ := q; exact ⟨rfl, h2, Kw.T (by decide), Fr.set (by omega) (by omega)⟩
set_option maxRecDepth 100000 in
set_option maxHeartbeats 4000000 in
theorem s_X0_takeThing {Sh : q_Sh} {I : q_Mem} {σ : a_A} {b T F : Nat} (hc : cOk Sh b) (hR : Rc T F b I σ) {f : Nat} (hf : f < F) : q_Rp mX0_takeThing 2 [.ref b, .int (nI f)] Sh (I) (fun w I2 => w = none ∧ Rc T F b I2 (a_min1 f σ) ∧ Fr b I I2) := by
  refine q_rp_of (by decide) (Nat.le_of_ble_eq_true rfl) fun Γ BM => ?_
  have B := BM.1
  have hT := hR.1.2.1.2.1
  have hT2 := hR.1.1.1
  have hF := hR.1.2.1.2.2
  have hF2 := hR.1.1.2
  have haT := a_W_T hR.2.2
  have haF := a_W_F hR.2.2
  obtain ⟨f0, f1, f2, f3, f4, f5⟩ := hR.1.2.2.2.1 f hf
  obtain ⟨h, hh1, hh, hh2⟩ := hR.2.2.2.2.2.2.2.2.1 f hf
  show q_W Γ mX0_takeThing 0 0 Sh (I) 0 [(0, .ref b), (1, .int (nI f))] []
  refine q_aload_n B dX0_takeThing_0 rfl rfl ?_
  refine q_iload_n B dX0_takeThing_1 rfl rfl ?_
  refine q_rtV B (s_X0_fixerAt hc hF hF2 hf) kv_yX0_fixerAt ki_yX0_fixerAt ks_yX0_fixerAt km_X0_50 rfl (ci := 0) rfl rfl hc.1 (by decide) rfl (Nat.le_of_ble_eq_true rfl) dX0_takeThing_2 ?_
  refine q_astore_n B dX0_takeThing_5 rfl (Nat.le_of_ble_eq_true rfl) rfl ?_
  refine q_aload_n B dX0_takeThing_6 rfl rfl ?_
  refine q_ifnull B dX0_takeThing_7 ?_
  refine q_aload_n B dX0_takeThing_10 rfl rfl ?_
  refine q_getI2 B kC_X1 (k := 2) (by decide) rfl kf_X0_110 (cF hc (i := f) (by omega)) (f2.trans (congrArg tk hh)) dX0_takeThing_11 ?_
  refine q_bipush (v := -6) B dX0_takeThing_14 rfl ?_
  refine q_icmp_eq (tgt := 20) B dX0_takeThing_16 (by decide) (fun c_16 => ?_) (fun c_16 => ?_)
  · skip
    have hz : σ (27 + 6 * f + 2) = 0 := by rw [hh]; exact (a_tk0 (by omega)).mp c_16
    have hm : a_min1 f σ = a_takes σ f := if_pos hz
    refine q_aload_n B dX0_takeThing_20 rfl rfl ?_
    refine q_aload_n B dX0_takeThing_21 rfl rfl ?_
    refine q_getI2 B kC_X1 (k := 0) (by decide) rfl kf_X0_113 (cF hc (i := f) (by omega)) f0 dX0_takeThing_22 ?_
    refine q_rtV B (s_X0_nextOf hc hR) kv_yX0_nextOf ki_yX0_nextOf ks_yX0_nextOf km_X0_116 rfl (ci := 0) rfl rfl hc.1 (by decide) rfl (Nat.le_of_ble_eq_true rfl) dX0_takeThing_25 ?_
    rcases a_next_in hR.2.2 (σ (27 + 6 * f)) with hn | ⟨j, hj, hn, hw⟩
    · skip
      refine q_top hn ?_
      have ht : a_takes σ f = σ := by unfold a_takes; dsimp only; rw [if_pos hn]
      refine q_istore_n B dX0_takeThing_28 rfl (Nat.le_of_ble_eq_true rfl) rfl ?_
      refine q_aload_n B dX0_takeThing_29 rfl rfl ?_
      refine q_iload_n B dX0_takeThing_30 rfl rfl ?_
      refine q_rtV B (s_X0_thingAt_no hc hT (fun q => absurd q.1 (by decide))) kv_yX0_thingAt ki_yX0_thingAt ks_yX0_thingAt km_X0_42 rfl (ci := 0) rfl rfl hc.1 (by decide) rfl (Nat.le_of_ble_eq_true rfl) dX0_takeThing_31 ?_
      refine q_astoreN B dX0_takeThing_34 (Nat.le_of_ble_eq_true rfl) rfl ?_
      refine q_aloadN B dX0_takeThing_36 rfl ?_
      refine q_ifnullN (tgt := 58) B dX0_takeThing_38 (by decide) ?_
      exact q_vret BM rfl dX0_takeThing_58 ⟨rfl, rfl, by rw [hm, ht]; exact hR, Fr.rf⟩
    · skip
      refine q_top hn ?_
      have ht : a_takes σ f = upd (upd σ (57 + 7 * j + 4) (nI 1)) (27 + 6 * f + 2) (nI j + 1) := by unfold a_takes; dsimp only; rw [hn, if_neg (a_nI_ne6 (by omega)), show a_n (nI j) = j from nI_clamp (by omega)]
      have hW2 : a_W T F (upd (upd σ (57 + 7 * j + 4) (nI 1)) (27 + 6 * f + 2) (nI j + 1)) := by rw [← ht]; exact a_takes_W hR.2.2 hf
      refine q_istore_n B dX0_takeThing_28 rfl (Nat.le_of_ble_eq_true rfl) rfl ?_
      refine q_aload_n B dX0_takeThing_29 rfl rfl ?_
      refine q_iload_n B dX0_takeThing_30 rfl rfl ?_
      refine q_rtV B (s_X0_thingAt hc hT hT2 hj) kv_yX0_thingAt ki_yX0_thingAt ks_yX0_thingAt km_X0_42 rfl (ci := 0) rfl rfl hc.1 (by decide) rfl (Nat.le_of_ble_eq_true rfl) dX0_takeThing_31 ?_
      refine q_astore B dX0_takeThing_34 (Nat.le_of_ble_eq_true rfl) rfl ?_
      refine q_aload B dX0_takeThing_36 rfl ?_
      refine q_ifnull B dX0_takeThing_38 ?_
      refine q_aload_n B dX0_takeThing_41 rfl rfl ?_
      refine q_iload_n B dX0_takeThing_42 rfl rfl ?_
      refine q_putI2 B kC_X1 (k := 2) (by decide) rfl kf_X0_110 rfl rfl rfl (cF hc (i := f) (by omega)) dX0_takeThing_43 ?_
      refine q_aload B dX0_takeThing_46 rfl ?_
      refine q_iconst (v := nI 1) B dX0_takeThing_48 rfl ?_
      refine q_putI2 B kC_X5 (k := 4) (by decide) rfl kf_X0_82 rfl rfl rfl (cT hc (i := j) (by omega)) dX0_takeThing_49 ?_
      refine q_aload B dX0_takeThing_52 rfl ?_
      refine q_iload_n B dX0_takeThing_54 rfl rfl ?_
      refine q_putI2 B kC_X5 (k := 5) (by decide) rfl kf_X0_119 rfl rfl rfl (cT hc (i := j) (by omega)) dX0_takeThing_55 ?_
      exact q_vret BM rfl dX0_takeThing_58 ⟨rfl, rfl, by
        rw [hm, ht]
        refine ⟨?_, Rw_take hR.2.1 hR.2.2 hW2 hf hz (by rw [q_upd_at, a_inc]) hj (fun g hg hne => by rw [q_upd_ne (by omega), q_upd_ne (by omega)]) (fun i hi => ?_), hW2⟩
        · rw [a_upd_comm (by omega)]
          exact Rd_wk (Rd_T (k := 4) (Rd_F (k := 2) hR.1 (show f < 5 by omega) (by decide) (by rw [if_pos rfl]; exact a_tk2 (by omega)) (by decide)) (show j < 30 by omega) (by decide)) (show j < 30 by omega)
        · by_cases e : i = j
          · subst e; rw [q_setA_at, q_upd_at, if_pos rfl]
          · rw [q_setA_ne (by omega), q_setA_ne (by omega), q_setA_ne (by omega), if_neg e], ((Fr.set (by omega) (by omega)).tr (Fr.set (by omega) (by omega))).tr (Fr.set (by omega) (by omega))⟩
  · skip
    have hm : a_min1 f σ = σ := if_neg (fun q => c_16 ((a_tk0 (by omega)).mpr (by rw [← hh]; exact q)))
    exact q_vret BM rfl dX0_takeThing_19 ⟨rfl, rfl, by rw [hm]; exact hR, Fr.rf⟩
