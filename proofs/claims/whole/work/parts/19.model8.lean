/-! the pad -/
def a_lo (x : Int64) : Int32 := (x &&& 255).toInt32
def a_sr (x : Int64) (k : Int32) : Int64 := (x.toUInt64 >>> (k.toInt64.toUInt64 &&& Int64.toUInt64 63)).toInt64
def a_pL : Nat → Nat → Int64 → Int32 → Nat × Int64 × Int32
  | 0, n, r, a => (n, r, a)
  | k + 1, n, r, a => if lg_cmp (r &&& 255) 0 = 0 then (n, r, a) else a_pL k (n + 1) (a_sr r (nI 8)) (if ¬ a = 0 ∧ (nI 33 ≤ a_lo r ∧ a_lo r ≤ nI 126) then 1 else 0)
def a_padW (P : a_A) (x : Int64) (len n : Nat) : a_A := fun j => if len ≤ j ∧ j < len + n then a_lo (a_sr x (nI 8 * ((nI n - nI 1) - nI (j - len)))) else P j
def a_padB (x : Int64) : Prop := (a_pL 8 0 x 1).1 = 0 ∨ (a_pL 8 0 x 1).2.2 = 0 ∨ ¬ lg_cmp (a_pL 8 0 x 1).2.1 0 = 0
theorem a_pL_le : ∀ k n r a, (a_pL k n r a).1 ≤ n + k := by
  intro k
  induction k with
  | zero => intro n r a; exact Nat.le_refl n
  | succ k ih =>
    intro n r a
    unfold a_pL
    split
    · show n ≤ _; omega
    · have := ih (n + 1) (a_sr r (nI 8)) (if ¬ a = 0 ∧ (nI 33 ≤ a_lo r ∧ a_lo r ≤ nI 126) then 1 else 0); omega
def a_pw (i : Nat) (P : a_A) (x : Int64) (len n : Nat) : a_A := fun j => if len ≤ j ∧ j < len + i then a_lo (a_sr x (nI 8 * ((nI n - nI 1) - nI (j - len)))) else P j
theorem a_pw_0 (P : a_A) (x : Int64) (len n : Nat) : a_pw 0 P x len n = P := by
  funext j
  have : ¬ (len ≤ j ∧ j < len + 0) := by omega
  simp only [a_pw, if_neg this]
theorem a_pw_s (i : Nat) (P : a_A) (x : Int64) (len n : Nat) : upd (a_pw i P x len n) (len + i) (a_lo (a_sr x (nI 8 * ((nI n - nI 1) - nI i)))) = a_pw (i + 1) P x len n := by
  funext j
  by_cases h : j = len + i
  · subst h
    have h1 : len ≤ len + i ∧ len + i < len + (i + 1) := by omega
    simp only [upd, a_pw, if_true, if_pos h1]
    rw [show len + i - len = i by omega]
  · by_cases h2 : len ≤ j ∧ j < len + i
    · have h3 : len ≤ j ∧ j < len + (i + 1) := by omega
      simp only [upd, a_pw, if_neg h, if_pos h2, if_pos h3]
    · have h3 : ¬ (len ≤ j ∧ j < len + (i + 1)) := by omega
      simp only [upd, a_pw, if_neg h, if_neg h2, if_neg h3]
set_option maxRecDepth 100000 in
set_option maxHeartbeats 4000000 in
theorem s_doneIn_no {Sh : q_Sh} {I : q_Mem} {σ : a_A} {o : Nat} (hm : mOk Sh o) {T F : Nat} (hW : a_W T F σ) (h0 : I o 0 = nI 0) {t : Int32} (hr : ¬ (nI 0 ≤ t ∧ t < nI T)) : q_Rt mX7_doneIn 5 [.ref o, .int t] Sh (q_setA I (o + 1) σ) (some (.int (a_doneIn σ t))) (q_setA I (o + 1) σ) := by
  refine q_rt_of (by decide) (Nat.le_of_ble_eq_true rfl) fun Γ BM => ?_
  have B := BM.1
  show q_W Γ mX7_doneIn 0 0 Sh (q_setA I (o + 1) σ) 0 [(0, .ref o), (1, .int t)] []
  refine q_aload_n B dX7_doneIn_0 rfl rfl ?_
  refine q_iconst (v := nI 0) B dX7_doneIn_1 rfl ?_
  refine q_putSame B kC_X7 (k := 0) (by decide) rfl kf_X7_32 rfl rfl rfl hm.1 ((congrFun (q_setA_ne (by omega)) _).trans h0) dX7_doneIn_2 ?_
  refine q_aload_n B dX7_doneIn_5 rfl rfl ?_
  refine q_iload_n B dX7_doneIn_6 rfl rfl ?_
  refine q_rtV B (s_isThing hm hW) kv_yX7_isThing ki_yX7_isThing ks_yX7_isThing km_X7_117 rfl (ci := 7) rfl rfl hm.1 (by decide) rfl (Nat.le_of_ble_eq_true rfl) dX7_doneIn_7 ?_
  refine q_if_ne (tgt := 15) B dX7_doneIn_10 (by decide) (fun h => absurd ((if_neg (by rw [hW.1.1]; exact fun q => hr ((a_isT_iff hW.1.2).mp q)))) h) (fun _ => ?_)
  refine q_iconst (v := -1) B dX7_doneIn_13 rfl ?_
  exact q_iret BM rfl dX7_doneIn_14 ⟨by rw [a_doneIn, if_pos (by rw [hW.1.1]; exact hr)], rfl, rfl⟩
set_option maxRecDepth 100000 in
set_option maxHeartbeats 4000000 in
theorem s_doneIn_yes {Sh : q_Sh} {I : q_Mem} {σ : a_A} {o : Nat} (hm : mOk Sh o) {T F : Nat} (hW : a_W T F σ) (h0 : I o 0 = nI 0) {j : Nat} (hj : j < T) : q_Rt mX7_doneIn 5 [.ref o, .int (nI j)] Sh (q_setA I (o + 1) σ) (some (.int (a_doneIn σ (nI j)))) (q_setA (q_setA I (o + 2) σ) (o + 1) σ) := by
  refine q_rt_of (by decide) (Nat.le_of_ble_eq_true rfl) fun Γ BM => ?_
  have B := BM.1
  have hr : nI 0 ≤ nI j ∧ nI j < nI T := ⟨(nI_leI (by omega) (by have := hW.1.2; omega)).mpr (Nat.zero_le j), (nI_ltI (by have := hW.1.2; omega) (by have := hW.1.2; omega)).mpr hj⟩
  have hT2 := hW.1.2
  have haj : a_n (nI j) = j := nI_clamp (by omega)
  have hr2 : nI 0 ≤ nI j ∧ nI j < σ 1 := by rw [hW.1.1]; exact hr
  show q_W Γ mX7_doneIn 0 0 Sh (q_setA I (o + 1) σ) 0 [(0, .ref o), (1, .int (nI j))] []
  refine q_aload_n B dX7_doneIn_0 rfl rfl ?_
  refine q_iconst (v := nI 0) B dX7_doneIn_1 rfl ?_
  refine q_putSame B kC_X7 (k := 0) (by decide) rfl kf_X7_32 rfl rfl rfl hm.1 ((congrFun (q_setA_ne (by omega)) _).trans h0) dX7_doneIn_2 ?_
  refine q_aload_n B dX7_doneIn_5 rfl rfl ?_
  refine q_iload_n B dX7_doneIn_6 rfl rfl ?_
  refine q_rtV B (s_isThing hm hW) kv_yX7_isThing ki_yX7_isThing ks_yX7_isThing km_X7_117 rfl (ci := 7) rfl rfl hm.1 (by decide) rfl (Nat.le_of_ble_eq_true rfl) dX7_doneIn_7 ?_
  refine q_if_ne (tgt := 15) B dX7_doneIn_10 (by decide) (fun _ => ?_) (fun h => absurd h ((by rw [if_pos (by rw [hW.1.1]; exact (a_isT_iff hW.1.2).mpr hr)]; decide)))
  refine q_aload_n B dX7_doneIn_15 rfl rfl ?_
  refine q_rtV B (s_putAside hm) kv_yX7_putAside ki_yX7_putAside ks_yX7_putAside km_X7_138 rfl (ci := 7) rfl rfl hm.1 (by decide) rfl (Nat.le_of_ble_eq_true rfl) dX7_doneIn_16 ?_
  refine q_iconst (v := nI 0) B dX7_doneIn_19 rfl ?_
  refine q_istore_n B dX7_doneIn_20 rfl (Nat.le_of_ble_eq_true rfl) rfl ?_
  have hl_21 : ∀ (n i : Nat) (σ1 : a_A), i + n = 501 → (a_doneL j n i σ1 = a_doneL j 501 0 σ ∧ a_W T F σ1) → q_W Γ mX7_doneIn 0 0 Sh (q_setA (q_setA I (o + 2) σ) (o + 1) σ1) 21 [(0, .ref o), (1, .int (nI j)), (2, .int (nI i))] [] := by
    intro n
    induction n with
    | zero =>
      intro i σ1 hin hinv
      have hi : i = 501 := by omega
      have hN : a_doneL j 501 0 σ = i := hinv.1.symm
      refine q_iload_n B dX7_doneIn_21 rfl rfl ?_
      refine q_sipush (v := nI 501) B dX7_doneIn_22 rfl ?_
      refine q_icmp_ge (tgt := 48) B dX7_doneIn_25 (by decide) (fun _ => ?_) (fun h => absurd (q_le (by omega) (by omega)) h)
      refine q_aload_n B dX7_doneIn_48 rfl rfl ?_
      refine q_rtV B (s_takeBack hm) kv_yX7_takeBack ki_yX7_takeBack ks_yX7_takeBack km_X7_141 rfl (ci := 7) rfl rfl hm.1 (by decide) rfl (Nat.le_of_ble_eq_true rfl) dX7_doneIn_49 ?_
      rw [q_setA_at]
      refine q_iload_n B dX7_doneIn_52 rfl rfl ?_
      refine q_sipush (v := nI 500) B dX7_doneIn_53 rfl ?_
      refine q_icmp_le (tgt := 64) B dX7_doneIn_56 (by decide) (fun c_56 => ?_) (fun c_56 => ?_)
      · skip
        refine q_iload_n B dX7_doneIn_64 rfl rfl ?_
        exact q_iret BM rfl dX7_doneIn_65 ⟨by rw [a_doneIn, if_neg (not_not_intro hr2), haj, hN]; dsimp only; first | (rw [if_neg (by have := (nI_leI (by omega) (by omega)).mp c_56; omega)]; done) | (rw [if_pos (by rcases Nat.lt_or_ge 500 i with q | q; exact q; exact absurd (q_le q (by decide)) c_56)]; done), rfl, rfl⟩
      · skip
        refine q_bipush (v := -6) B dX7_doneIn_59 rfl ?_
        refine q_goto (tgt := 65) B dX7_doneIn_61 (by decide) ?_
        exact q_iret BM rfl dX7_doneIn_65 ⟨by rw [a_doneIn, if_neg (not_not_intro hr2), haj, hN]; dsimp only; first | (rw [if_neg (by have := (nI_leI (by omega) (by omega)).mp c_56; omega)]; done) | (rw [if_pos (by rcases Nat.lt_or_ge 500 i with q | q; exact q; exact absurd (q_le q (by decide)) c_56)]; done), rfl, rfl⟩
    | succ n ih =>
      intro i σ1 hin hinv
      have hiN : i < 501 := by omega
      refine q_iload_n B dX7_doneIn_21 rfl rfl ?_
      refine q_sipush (v := nI 501) B dX7_doneIn_22 rfl ?_
      refine q_icmp_ge (tgt := 48) B dX7_doneIn_25 (by decide) (fun h => absurd h (q_nle hiN (by decide))) (fun _ => ?_)
      refine q_aload_n B dX7_doneIn_28 rfl rfl ?_
      refine q_iload_n B dX7_doneIn_29 rfl rfl ?_
      refine q_iconst (v := nI 4) B dX7_doneIn_30 rfl ?_
      refine q_rtV B (s_of hm (by omega) (by decide)) kv_yX7_of ki_yX7_of ks_yX7_of km_X7_39 rfl (ci := 7) rfl rfl hm.1 (by decide) rfl (Nat.le_of_ble_eq_true rfl) dX7_doneIn_31 ?_
      refine q_iconst (v := nI 2) B dX7_doneIn_34 rfl ?_
      refine q_icmp_ge (tgt := 48) B dX7_doneIn_35 (by decide) (fun c_35 => ?_) (fun c_35 => ?_)
      · skip
        have hN : a_doneL j 501 0 σ = i := by rw [← hinv.1]; unfold a_doneL; rw [if_neg (Int32.not_lt.mpr c_35)]
        refine q_aload_n B dX7_doneIn_48 rfl rfl ?_
        refine q_rtV B (s_takeBack hm) kv_yX7_takeBack ki_yX7_takeBack ks_yX7_takeBack km_X7_141 rfl (ci := 7) rfl rfl hm.1 (by decide) rfl (Nat.le_of_ble_eq_true rfl) dX7_doneIn_49 ?_
        rw [q_setA_at]
        refine q_iload_n B dX7_doneIn_52 rfl rfl ?_
        refine q_sipush (v := nI 500) B dX7_doneIn_53 rfl ?_
        refine q_icmp_le (tgt := 64) B dX7_doneIn_56 (by decide) (fun c_56 => ?_) (fun c_56 => ?_)
        · skip
          refine q_iload_n B dX7_doneIn_64 rfl rfl ?_
          exact q_iret BM rfl dX7_doneIn_65 ⟨by rw [a_doneIn, if_neg (not_not_intro hr2), haj, hN]; dsimp only; first | (rw [if_neg (by have := (nI_leI (by omega) (by omega)).mp c_56; omega)]; done) | (rw [if_pos (by rcases Nat.lt_or_ge 500 i with q | q; exact q; exact absurd (q_le q (by decide)) c_56)]; done), rfl, rfl⟩
        · skip
          refine q_bipush (v := -6) B dX7_doneIn_59 rfl ?_
          refine q_goto (tgt := 65) B dX7_doneIn_61 (by decide) ?_
          exact q_iret BM rfl dX7_doneIn_65 ⟨by rw [a_doneIn, if_neg (not_not_intro hr2), haj, hN]; dsimp only; first | (rw [if_neg (by have := (nI_leI (by omega) (by omega)).mp c_56; omega)]; done) | (rw [if_pos (by rcases Nat.lt_or_ge 500 i with q | q; exact q; exact absurd (q_le q (by decide)) c_56)]; done), rfl, rfl⟩
      · skip
        refine q_aload_n B dX7_doneIn_38 rfl rfl ?_
        refine q_rtV B (s_minute hm hinv.2) kv_yX7_minute ki_yX7_minute ks_yX7_minute km_X7_91 rfl (ci := 7) rfl rfl hm.1 (by decide) rfl (Nat.le_of_ble_eq_true rfl) dX7_doneIn_39 ?_
        refine q_iinc2 (y := nI (i + 1)) B dX7_doneIn_42 rfl (q_inc1 _) (Nat.le_of_ble_eq_true rfl) rfl ?_
        refine q_goto (tgt := 21) B dX7_doneIn_45 (by decide) ?_
        exact q_tk (ih (i + 1) _ (by omega) ⟨by rw [← hinv.1]; conv => rhs; unfold a_doneL; rw [if_pos (Int32.not_le.mp c_35)], a_minute_W hinv.2⟩) rfl (q_ac rfl (q_ac rfl (q_ac rfl q_an)))
  exact q_tk (hl_21 501 0 σ (by omega) ⟨rfl, hW⟩) rfl (q_ac rfl (q_ac rfl (q_ac rfl q_an)))
set_option maxRecDepth 100000 in
set_option maxHeartbeats 4000000 in
theorem s_repairedWith {Sh : q_Sh} {I : q_Mem} {σ : a_A} {o : Nat} (hm : mOk Sh o) {T F : Nat} (hW : a_W T F σ) (hlt : F < 5) {k c : Int32} {n : Nat} (hn : n < 2 ^ 31) : q_Rt mX7_repairedWith 6 [.ref o, .int k, .int c, .int (nI n)] Sh (q_setA I (o + 1) σ) (some (.int (a_repW σ k c n))) (q_setA (q_setA I (o + 2) σ) (o + 1) σ) := by
  refine q_rt_of (by decide) (Nat.le_of_ble_eq_true rfl) fun Γ BM => ?_
  have B := BM.1
  show q_W Γ mX7_repairedWith 0 0 Sh (q_setA I (o + 1) σ) 0 [(0, .ref o), (1, .int k), (2, .int c), (3, .int (nI n))] []
  refine q_aload_n B dX7_repairedWith_0 rfl rfl ?_
  refine q_rtV B (s_putAside hm) kv_yX7_putAside ki_yX7_putAside ks_yX7_putAside km_X7_138 rfl (ci := 7) rfl rfl hm.1 (by decide) rfl (Nat.le_of_ble_eq_true rfl) dX7_repairedWith_1 ?_
  refine q_aload_n B dX7_repairedWith_4 rfl rfl ?_
  refine q_iload_n B dX7_repairedWith_5 rfl rfl ?_
  refine q_iload_n B dX7_repairedWith_6 rfl rfl ?_
  refine q_rtV B (s_comesFixer hm hW hlt) kv_yX7_comesFixer ki_yX7_comesFixer ks_yX7_comesFixer km_X7_111 rfl (ci := 7) rfl rfl hm.1 (by decide) rfl (Nat.le_of_ble_eq_true rfl) dX7_repairedWith_7 ?_
  refine q_pop B dX7_repairedWith_10 rfl ?_
  refine q_aload_n B dX7_repairedWith_11 rfl rfl ?_
  refine q_iload_n B dX7_repairedWith_12 rfl rfl ?_
  refine q_rtV B (s_minutes hm (a_comesF_W hW hlt) hn) kv_yX7_minutes ki_yX7_minutes ks_yX7_minutes km_X7_123 rfl (ci := 7) rfl rfl hm.1 (by decide) rfl (Nat.le_of_ble_eq_true rfl) dX7_repairedWith_13 ?_
  refine q_istore B dX7_repairedWith_16 (Nat.le_of_ble_eq_true rfl) rfl ?_
  refine q_aload_n B dX7_repairedWith_18 rfl rfl ?_
  refine q_rtV B (s_takeBack hm) kv_yX7_takeBack ki_yX7_takeBack ks_yX7_takeBack km_X7_141 rfl (ci := 7) rfl rfl hm.1 (by decide) rfl (Nat.le_of_ble_eq_true rfl) dX7_repairedWith_19 ?_
  rw [q_setA_at]
  refine q_iload B dX7_repairedWith_22 rfl ?_
  exact q_iret BM rfl dX7_repairedWith_24 ⟨rfl, rfl, rfl⟩
set_option maxRecDepth 100000 in
set_option maxHeartbeats 4000000 in
theorem s_withFixer_no {Sh : q_Sh} {I : q_Mem} {σ : a_A} {o : Nat} (hm : mOk Sh o) {T F : Nat} (hW : a_W T F σ) (h0 : I o 0 = nI 0) {k c m : Int32} (hr : ¬ a_refF σ k c = 0 ∨ ¬ (nI 1 ≤ m ∧ m ≤ nI 300)) : q_Rt mX7_withFixer 7 [.ref o, .int k, .int c, .int m] Sh (q_setA I (o + 1) σ) (some (.int (a_withF σ k c m))) (q_setA I (o + 1) σ) := by
  refine q_rt_of (by decide) (Nat.le_of_ble_eq_true rfl) fun Γ BM => ?_
  have B := BM.1
  show q_W Γ mX7_withFixer 0 0 Sh (q_setA I (o + 1) σ) 0 [(0, .ref o), (1, .int k), (2, .int c), (3, .int m)] []
  refine q_aload_n B dX7_withFixer_0 rfl rfl ?_
  refine q_iconst (v := nI 0) B dX7_withFixer_1 rfl ?_
  refine q_putSame B kC_X7 (k := 0) (by decide) rfl kf_X7_32 rfl rfl rfl hm.1 ((congrFun (q_setA_ne (by omega)) _).trans h0) dX7_withFixer_2 ?_
  refine q_aload_n B dX7_withFixer_5 rfl rfl ?_
  refine q_iload_n B dX7_withFixer_6 rfl rfl ?_
  refine q_iload_n B dX7_withFixer_7 rfl rfl ?_
  refine q_rtV B (s_refusesFixer hm) kv_yX7_refusesFixer ki_yX7_refusesFixer ks_yX7_refusesFixer km_X7_108 rfl (ci := 7) rfl rfl hm.1 (by decide) rfl (Nat.le_of_ble_eq_true rfl) dX7_withFixer_8 ?_
  refine q_istore B dX7_withFixer_11 (Nat.le_of_ble_eq_true rfl) rfl ?_
  refine q_iload B dX7_withFixer_13 rfl ?_
  refine q_bipush (v := -2) B dX7_withFixer_15 rfl ?_
  refine q_icmp_eq (tgt := 31) B dX7_withFixer_17 (by decide) (fun c_17 => ?_) (fun c_17 => ?_)
  · skip
    refine q_bipush (v := -2) B dX7_withFixer_31 rfl ?_
    exact q_iret BM rfl dX7_withFixer_33 ⟨by rw [a_withF]; first | (rw [if_pos (Or.inl c_17)]; done) | (rw [if_pos (Or.inr h28)]; done), rfl, rfl⟩
  · skip
    refine q_iload_n B dX7_withFixer_20 rfl rfl ?_
    refine q_iconst (v := nI 1) B dX7_withFixer_21 rfl ?_
    refine q_sipush (v := nI 300) B dX7_withFixer_22 rfl ?_
    refine q_rtS B s_in kv_yX7_in kt_yX7_in km_X7_94 rfl (by decide) rfl (Nat.le_of_ble_eq_true rfl) dX7_withFixer_25 ?_
    refine q_if_ne (tgt := 34) B dX7_withFixer_28 (by decide) (fun c_28 => ?_) (fun c_28 => ?_)
    · skip
      have h28 := a_b1 c_28
      refine q_iload B dX7_withFixer_34 rfl ?_
      refine q_if_eq (tgt := 44) B dX7_withFixer_36 (by decide) (fun c_36 => ?_) (fun c_36 => ?_)
      · skip
        exact absurd c_36 (hr.resolve_right (not_not_intro h28))
      · skip
        refine q_iload B dX7_withFixer_39 rfl ?_
        refine q_goto (tgt := 51) B dX7_withFixer_41 (by decide) ?_
        exact q_iret BM rfl dX7_withFixer_51 ⟨by rw [a_withF, if_neg (fun h => h.elim c_17 (fun h => h h28)), if_neg c_36], rfl, rfl⟩
    · skip
      have h28 := a_b0 c_28
      refine q_bipush (v := -2) B dX7_withFixer_31 rfl ?_
      exact q_iret BM rfl dX7_withFixer_33 ⟨by rw [a_withF]; first | (rw [if_pos (Or.inl c_17)]; done) | (rw [if_pos (Or.inr h28)]; done), rfl, rfl⟩
set_option maxRecDepth 100000 in
set_option maxHeartbeats 4000000 in
theorem s_withFixer_yes {Sh : q_Sh} {I : q_Mem} {σ : a_A} {o : Nat} (hm : mOk Sh o) {T F : Nat} (hW : a_W T F σ) (h0 : I o 0 = nI 0) {k c : Int32} {n : Nat} (hr : a_refF σ k c = 0) (h28 : nI 1 ≤ nI n ∧ nI n ≤ nI 300) (hn : n < 2 ^ 31) : q_Rt mX7_withFixer 7 [.ref o, .int k, .int c, .int (nI n)] Sh (q_setA I (o + 1) σ) (some (.int (a_withF σ k c (nI n)))) (q_setA (q_setA I (o + 2) σ) (o + 1) σ) := by
  refine q_rt_of (by decide) (Nat.le_of_ble_eq_true rfl) fun Γ BM => ?_
  have B := BM.1
  have hlt := (a_refF_0 hW hr).1
  have han : a_n (nI n) = n := nI_clamp hn
  have hr2 : ¬ a_refF σ k c = -2 := by rw [hr]; decide
  show q_W Γ mX7_withFixer 0 0 Sh (q_setA I (o + 1) σ) 0 [(0, .ref o), (1, .int k), (2, .int c), (3, .int (nI n))] []
  refine q_aload_n B dX7_withFixer_0 rfl rfl ?_
  refine q_iconst (v := nI 0) B dX7_withFixer_1 rfl ?_
  refine q_putSame B kC_X7 (k := 0) (by decide) rfl kf_X7_32 rfl rfl rfl hm.1 ((congrFun (q_setA_ne (by omega)) _).trans h0) dX7_withFixer_2 ?_
  refine q_aload_n B dX7_withFixer_5 rfl rfl ?_
  refine q_iload_n B dX7_withFixer_6 rfl rfl ?_
  refine q_iload_n B dX7_withFixer_7 rfl rfl ?_
  refine q_rtV B (s_refusesFixer hm) kv_yX7_refusesFixer ki_yX7_refusesFixer ks_yX7_refusesFixer km_X7_108 rfl (ci := 7) rfl rfl hm.1 (by decide) rfl (Nat.le_of_ble_eq_true rfl) dX7_withFixer_8 ?_
  refine q_istore B dX7_withFixer_11 (Nat.le_of_ble_eq_true rfl) rfl ?_
  refine q_iload B dX7_withFixer_13 rfl ?_
  refine q_bipush (v := -2) B dX7_withFixer_15 rfl ?_
  refine q_icmp_eq (tgt := 31) B dX7_withFixer_17 (by decide) (fun h => absurd h hr2) (fun _ => ?_)
  refine q_iload_n B dX7_withFixer_20 rfl rfl ?_
  refine q_iconst (v := nI 1) B dX7_withFixer_21 rfl ?_
  refine q_sipush (v := nI 300) B dX7_withFixer_22 rfl ?_
  refine q_rtS B s_in kv_yX7_in kt_yX7_in km_X7_94 rfl (by decide) rfl (Nat.le_of_ble_eq_true rfl) dX7_withFixer_25 ?_
  refine q_if_ne (tgt := 34) B dX7_withFixer_28 (by decide) (fun _ => ?_) (fun h => absurd h ((by rw [if_pos h28]; decide)))
  refine q_iload B dX7_withFixer_34 rfl ?_
  refine q_if_eq (tgt := 44) B dX7_withFixer_36 (by decide) (fun _ => ?_) (fun h => absurd hr h)
  refine q_aload_n B dX7_withFixer_44 rfl rfl ?_
  refine q_iload_n B dX7_withFixer_45 rfl rfl ?_
  refine q_iload_n B dX7_withFixer_46 rfl rfl ?_
  refine q_iload_n B dX7_withFixer_47 rfl rfl ?_
  refine q_rtV B (s_repairedWith hm hW hlt hn) kv_yX7_repairedWith ki_yX7_repairedWith ks_yX7_repairedWith km_X7_144 rfl (ci := 7) rfl rfl hm.1 (by decide) rfl (Nat.le_of_ble_eq_true rfl) dX7_withFixer_48 ?_
  exact q_iret BM rfl dX7_withFixer_51 ⟨by rw [a_withF, if_neg (fun h => h.elim hr2 (fun h => h h28)), if_pos hr, han], rfl, rfl⟩
set_option maxRecDepth 100000 in
set_option maxHeartbeats 4000000 in
theorem s_bestCare_no1 {Sh : q_Sh} {I : q_Mem} {σ : a_A} {o : Nat} (hm : mOk Sh o) {T F : Nat} (hW : a_W T F σ) (h0 : I o 0 = nI 0) {m : Int32} (hr : ¬ (nI 1 ≤ m ∧ m ≤ nI 300)) : q_Rt mX7_bestCare 7 [.ref o, .int m] Sh (q_setA I (o + 1) σ) (some (.int (a_best σ m))) (q_setA I (o + 1) σ) := by
  refine q_rt_of (by decide) (Nat.le_of_ble_eq_true rfl) fun Γ BM => ?_
  have B := BM.1
  show q_W Γ mX7_bestCare 0 0 Sh (q_setA I (o + 1) σ) 0 [(0, .ref o), (1, .int m)] []
  refine q_aload_n B dX7_bestCare_0 rfl rfl ?_
  refine q_iconst (v := nI 0) B dX7_bestCare_1 rfl ?_
  refine q_putSame B kC_X7 (k := 0) (by decide) rfl kf_X7_32 rfl rfl rfl hm.1 ((congrFun (q_setA_ne (by omega)) _).trans h0) dX7_bestCare_2 ?_
  refine q_iload_n B dX7_bestCare_5 rfl rfl ?_
  refine q_iconst (v := nI 1) B dX7_bestCare_6 rfl ?_
  refine q_sipush (v := nI 300) B dX7_bestCare_7 rfl ?_
  refine q_rtS B s_in kv_yX7_in kt_yX7_in km_X7_94 rfl (by decide) rfl (Nat.le_of_ble_eq_true rfl) dX7_bestCare_10 ?_
  refine q_if_ne (tgt := 19) B dX7_bestCare_13 (by decide) (fun h => absurd ((if_neg hr)) h) (fun _ => ?_)
  refine q_bipush (v := -2) B dX7_bestCare_16 rfl ?_
  exact q_iret BM rfl dX7_bestCare_18 ⟨by rw [a_best, if_pos hr], rfl, rfl⟩
set_option maxRecDepth 100000 in
set_option maxHeartbeats 4000000 in
theorem s_bestCare_no2 {Sh : q_Sh} {I : q_Mem} {σ : a_A} {o : Nat} (hm : mOk Sh o) {T F : Nat} (hW : a_W T F σ) (h0 : I o 0 = nI 0) {m : Int32} (hr : nI 1 ≤ m ∧ m ≤ nI 300) (h5 : σ 2 = nI 5) : q_Rt mX7_bestCare 7 [.ref o, .int m] Sh (q_setA I (o + 1) σ) (some (.int (a_best σ m))) (q_setA I (o + 1) σ) := by
  refine q_rt_of (by decide) (Nat.le_of_ble_eq_true rfl) fun Γ BM => ?_
  have B := BM.1
  show q_W Γ mX7_bestCare 0 0 Sh (q_setA I (o + 1) σ) 0 [(0, .ref o), (1, .int m)] []
  refine q_aload_n B dX7_bestCare_0 rfl rfl ?_
  refine q_iconst (v := nI 0) B dX7_bestCare_1 rfl ?_
  refine q_putSame B kC_X7 (k := 0) (by decide) rfl kf_X7_32 rfl rfl rfl hm.1 ((congrFun (q_setA_ne (by omega)) _).trans h0) dX7_bestCare_2 ?_
  refine q_iload_n B dX7_bestCare_5 rfl rfl ?_
  refine q_iconst (v := nI 1) B dX7_bestCare_6 rfl ?_
  refine q_sipush (v := nI 300) B dX7_bestCare_7 rfl ?_
  refine q_rtS B s_in kv_yX7_in kt_yX7_in km_X7_94 rfl (by decide) rfl (Nat.le_of_ble_eq_true rfl) dX7_bestCare_10 ?_
  refine q_if_ne (tgt := 19) B dX7_bestCare_13 (by decide) (fun _ => ?_) (fun h => absurd h ((by rw [if_pos hr]; decide)))
  refine q_aload_n B dX7_bestCare_19 rfl rfl ?_
  refine q_getR B kC_X7 (k := 1) (by decide) rfl kf_X7_7 hm.1 (mR_s hm) dX7_bestCare_20 ?_
  refine q_iconst (v := nI 2) B dX7_bestCare_23 rfl ?_
  refine q_ialdS (n := 2) B (mA_s hm) rfl (by omega) (by decide) dX7_bestCare_24 ?_
  refine q_iconst (v := nI 5) B dX7_bestCare_25 rfl ?_
  refine q_icmp_ne (tgt := 32) B dX7_bestCare_26 (by decide) (fun h => absurd h5 h) (fun _ => ?_)
  refine q_bipush (v := -4) B dX7_bestCare_29 rfl ?_
  exact q_iret BM rfl dX7_bestCare_31 ⟨by rw [a_best, if_neg (not_not_intro hr), if_pos h5], rfl, rfl⟩
set_option maxRecDepth 100000 in
set_option maxHeartbeats 4000000 in
theorem s_bestCare_yes {Sh : q_Sh} {I : q_Mem} {σ : a_A} {o : Nat} (hm : mOk Sh o) {T F : Nat} (hW : a_W T F σ) (h0 : I o 0 = nI 0) {y : Nat} (hr : nI 1 ≤ nI y ∧ nI y ≤ nI 300) (hn : y < 2 ^ 31) (h5 : ¬ σ 2 = nI 5) : q_Rt mX7_bestCare 7 [.ref o, .int (nI y)] Sh (q_setA I (o + 1) σ) (some (.int (a_best σ (nI y)))) (q_setA (q_setA I (o + 2) σ) (o + 1) σ) := by
  refine q_rt_of (by decide) (Nat.le_of_ble_eq_true rfl) fun Γ BM => ?_
  have B := BM.1
  have han : a_n (nI y) = y := nI_clamp hn
  have hlt : F < 5 := by
    have := hW.2.1.2
    rcases Nat.lt_or_ge F 5 with q | q
    · exact q
    · exact absurd (by rw [hW.2.1.1, show F = 5 by omega]) h5
  show q_W Γ mX7_bestCare 0 0 Sh (q_setA I (o + 1) σ) 0 [(0, .ref o), (1, .int (nI y))] []
  refine q_aload_n B dX7_bestCare_0 rfl rfl ?_
  refine q_iconst (v := nI 0) B dX7_bestCare_1 rfl ?_
  refine q_putSame B kC_X7 (k := 0) (by decide) rfl kf_X7_32 rfl rfl rfl hm.1 ((congrFun (q_setA_ne (by omega)) _).trans h0) dX7_bestCare_2 ?_
  refine q_iload_n B dX7_bestCare_5 rfl rfl ?_
  refine q_iconst (v := nI 1) B dX7_bestCare_6 rfl ?_
  refine q_sipush (v := nI 300) B dX7_bestCare_7 rfl ?_
  refine q_rtS B s_in kv_yX7_in kt_yX7_in km_X7_94 rfl (by decide) rfl (Nat.le_of_ble_eq_true rfl) dX7_bestCare_10 ?_
  refine q_if_ne (tgt := 19) B dX7_bestCare_13 (by decide) (fun _ => ?_) (fun h => absurd h ((by rw [if_pos hr]; decide)))
  refine q_aload_n B dX7_bestCare_19 rfl rfl ?_
  refine q_getR B kC_X7 (k := 1) (by decide) rfl kf_X7_7 hm.1 (mR_s hm) dX7_bestCare_20 ?_
  refine q_iconst (v := nI 2) B dX7_bestCare_23 rfl ?_
  refine q_ialdS (n := 2) B (mA_s hm) rfl (by omega) (by decide) dX7_bestCare_24 ?_
  refine q_iconst (v := nI 5) B dX7_bestCare_25 rfl ?_
  refine q_icmp_ne (tgt := 32) B dX7_bestCare_26 (by decide) (fun _ => ?_) (fun h => absurd h h5)
  refine q_iconst (v := 0) B dX7_bestCare_32 rfl ?_
  refine q_istore_n B dX7_bestCare_33 rfl (Nat.le_of_ble_eq_true rfl) rfl ?_
  refine q_aload_n B dX7_bestCare_34 rfl rfl ?_
  refine q_bipush (v := nI 63) B dX7_bestCare_35 rfl ?_
  refine q_iconst (v := 0) B dX7_bestCare_37 rfl ?_
  refine q_iload_n B dX7_bestCare_38 rfl rfl ?_
  refine q_rtV B (s_repairedWith hm hW hlt hn) kv_yX7_repairedWith ki_yX7_repairedWith ks_yX7_repairedWith km_X7_144 rfl (ci := 7) rfl rfl hm.1 (by decide) rfl (Nat.le_of_ble_eq_true rfl) dX7_bestCare_39 ?_
  refine q_istore_n B dX7_bestCare_42 rfl (Nat.le_of_ble_eq_true rfl) rfl ?_
  refine q_iconst (v := nI 1) B dX7_bestCare_43 rfl ?_
  refine q_istore B dX7_bestCare_44 (Nat.le_of_ble_eq_true rfl) rfl ?_
  have hl_46 : ∀ (n i : Nat) (b x : Int32), i + n = 9 → q_fold (a_best1 σ y) i (0, a_repW σ (nI 63) 0 y) = (b, x) → q_W Γ mX7_bestCare 0 0 Sh (q_setA (q_setA I (o + 2) σ) (o + 1) σ) 46 [(0, .ref o), (1, .int (nI y)), (2, .int b), (3, .int x), (4, .int (nI (i + 1)))] [] := by
    intro n
    induction n with
    | zero =>
      intro i b x hin hinv
      have hi : i = 9 := by omega
      subst hi
      refine q_iload B dX7_bestCare_46 rfl ?_
      refine q_bipush (v := nI 10) B dX7_bestCare_48 rfl ?_
      refine q_icmp_ge (tgt := 96) B dX7_bestCare_50 (by decide) (fun _ => ?_) (fun h => absurd (q_le (Nat.le_refl 10) (by decide)) h)
      refine q_iload_n B dX7_bestCare_96 rfl rfl ?_
      exact q_iret BM rfl dX7_bestCare_97 ⟨by rw [a_best, if_neg (not_not_intro hr), if_neg h5, han, hinv], rfl, rfl⟩
    | succ n ih =>
      intro i b x hin hinv
      have hiN : i < 9 := by omega
      refine q_iload B dX7_bestCare_46 rfl ?_
      refine q_bipush (v := nI 10) B dX7_bestCare_48 rfl ?_
      refine q_icmp_ge (tgt := 96) B dX7_bestCare_50 (by decide) (fun h => absurd h (q_nle (by omega) (by decide))) (fun _ => ?_)
      refine q_aload_n B dX7_bestCare_53 rfl rfl ?_
      refine q_bipush (v := nI 63) B dX7_bestCare_54 rfl ?_
      refine q_iload B dX7_bestCare_56 rfl ?_
      refine q_iload_n B dX7_bestCare_58 rfl rfl ?_
      refine q_rtV B (s_repairedWith hm hW hlt hn) kv_yX7_repairedWith ki_yX7_repairedWith ks_yX7_repairedWith km_X7_144 rfl (ci := 7) rfl rfl hm.1 (by decide) rfl (Nat.le_of_ble_eq_true rfl) dX7_bestCare_59 ?_
      rw [q_setA_setA]
      refine q_istore B dX7_bestCare_62 (Nat.le_of_ble_eq_true rfl) rfl ?_
      refine q_join 76 (if x < a_repW σ (nI 63) (nI (i + 1)) y then nI (i + 1) else b) ?_ (fun j_64 => ?_)
      · skip
        refine q_istore_n B dX7_bestCare_76 rfl (Nat.le_of_ble_eq_true rfl) rfl ?_
        refine q_join 89 (if x < a_repW σ (nI 63) (nI (i + 1)) y then a_repW σ (nI 63) (nI (i + 1)) y else x) ?_ (fun j_77 => ?_)
        · skip
          refine q_istore_n B dX7_bestCare_89 rfl (Nat.le_of_ble_eq_true rfl) rfl ?_
          refine q_iinc2 (y := nI (i + 1 + 1)) B dX7_bestCare_90 rfl (q_inc1 _) (Nat.le_of_ble_eq_true rfl) rfl ?_
          refine q_goto (tgt := 46) B dX7_bestCare_93 (by decide) ?_
          exact q_tk (ih (i + 1) _ _ (by omega) (by show a_best1 σ y i (q_fold _ i _) = _; rw [hinv]; rfl)) rfl (q_ac rfl (q_ac rfl (q_ac rfl (q_ac rfl (q_ac rfl q_an)))))
        · skip
          refine q_iload B dX7_bestCare_77 rfl ?_
          refine q_iload_n B dX7_bestCare_79 rfl rfl ?_
          refine q_icmp_le (tgt := 88) B dX7_bestCare_80 (by decide) (fun c_80 => ?_) (fun c_80 => ?_)
          · skip
            refine q_iload_n B dX7_bestCare_88 rfl rfl ?_
            exact q_top (by first | (rw [if_pos (Int32.not_le.mp c_80)]; done) | (rw [if_neg (Int32.not_lt.mpr c_80)]; done)) j_77
          · skip
            refine q_iload B dX7_bestCare_83 rfl ?_
            refine q_goto (tgt := 89) B dX7_bestCare_85 (by decide) ?_
            exact q_top (by first | (rw [if_pos (Int32.not_le.mp c_80)]; done) | (rw [if_neg (Int32.not_lt.mpr c_80)]; done)) j_77
      · skip
        refine q_iload B dX7_bestCare_64 rfl ?_
        refine q_iload_n B dX7_bestCare_66 rfl rfl ?_
        refine q_icmp_le (tgt := 75) B dX7_bestCare_67 (by decide) (fun c_67 => ?_) (fun c_67 => ?_)
        · skip
          refine q_iload_n B dX7_bestCare_75 rfl rfl ?_
          exact q_top (by first | (rw [if_pos (Int32.not_le.mp c_67)]; done) | (rw [if_neg (Int32.not_lt.mpr c_67)]; done)) j_64
        · skip
          refine q_iload B dX7_bestCare_70 rfl ?_
          refine q_goto (tgt := 76) B dX7_bestCare_72 (by decide) ?_
          exact q_top (by first | (rw [if_pos (Int32.not_le.mp c_67)]; done) | (rw [if_neg (Int32.not_lt.mpr c_67)]; done)) j_64
  exact q_tk (hl_46 9 0 0 (a_repW σ (nI 63) 0 y) (by omega) rfl) rfl (q_ac rfl (q_ac rfl (q_ac rfl (q_ac rfl (q_ac rfl q_an)))))
set_option maxRecDepth 100000 in
set_option maxHeartbeats 4000000 in
theorem s_wipe {Sh : q_Sh} {I : q_Mem} {σ : a_A} {o : Nat} (hm : mOk Sh o) (h0 : I o 0 = nI 0) : q_Rt mX7_wipe 0 [.ref o] Sh (q_setA I (o + 1) σ) (some (.int (I o 8))) (q_setA (q_setA I o (upd (I o) 8 0)) (o + 1) σ) := by
  refine q_rt_of (by decide) (Nat.le_of_ble_eq_true rfl) fun Γ BM => ?_
  have B := BM.1
  show q_W Γ mX7_wipe 0 0 Sh (q_setA I (o + 1) σ) 0 [(0, .ref o)] []
  refine q_aload_n B dX7_wipe_0 rfl rfl ?_
  refine q_iconst (v := nI 0) B dX7_wipe_1 rfl ?_
  refine q_putSame B kC_X7 (k := 0) (by decide) rfl kf_X7_32 rfl rfl rfl hm.1 ((congrFun (q_setA_ne (by omega)) _).trans h0) dX7_wipe_2 ?_
  refine q_aload_n B dX7_wipe_5 rfl rfl ?_
  refine q_getIS B (by omega) kC_X7 (k := 8) (by decide) rfl kf_X7_135 hm.1 dX7_wipe_6 ?_
  refine q_istore_n B dX7_wipe_9 rfl (Nat.le_of_ble_eq_true rfl) rfl ?_
  refine q_aload_n B dX7_wipe_10 rfl rfl ?_
  refine q_iconst (v := 0) B dX7_wipe_11 rfl ?_
  refine q_putIS B (by omega) kC_X7 (k := 8) (by decide) rfl kf_X7_135 rfl rfl rfl hm.1 dX7_wipe_12 ?_
  refine q_iload_n B dX7_wipe_15 rfl rfl ?_
  exact q_iret BM rfl dX7_wipe_16 ⟨rfl, rfl, rfl⟩
set_option maxRecDepth 100000 in
set_option maxHeartbeats 4000000 in
theorem s_put_no {Sh : q_Sh} {I : q_Mem} {σ : a_A} {o : Nat} (hm : mOk Sh o) (h0 : I o 0 = nI 0) {len : Nat} (hlen : len ≤ 80) (hl8 : I o 8 = nI len) {x : Int64} (hno : (a_padB x ∨ 80 < len + (a_pL 8 0 x 1).1)) : q_Rt mX7_put 1 [.ref o, .long x] Sh (q_setA I (o + 1) σ) (some (.int (if (a_pL 8 0 x 1).1 = 0 ∨ (a_pL 8 0 x 1).2.2 = 0 ∨ ¬ lg_cmp (a_pL 8 0 x 1).2.1 0 = 0 then -2 else -4))) (q_setA I (o + 1) σ) := by
  refine q_rt_of (by decide) (Nat.le_of_ble_eq_true rfl) fun Γ BM => ?_
  have B := BM.1
  show q_W Γ mX7_put 0 0 Sh (q_setA I (o + 1) σ) 0 [(0, .ref o), (1, .long x)] []
  refine q_aload_n B dX7_put_0 rfl rfl ?_
  refine q_iconst (v := nI 0) B dX7_put_1 rfl ?_
  refine q_putSame B kC_X7 (k := 0) (by decide) rfl kf_X7_32 rfl rfl rfl hm.1 ((congrFun (q_setA_ne (by omega)) _).trans h0) dX7_put_2 ?_
  have j_72 : ∀ (i : Nat) (r : Int64) (a : Int32), (a_pL 8 0 x 1 = (i, r, a) ∧ i ≤ 8) → q_W Γ mX7_put 0 0 Sh (q_setA I (o + 1) σ) 72 [(0, .ref o), (1, .long x), (3, .int (nI i)), (4, .long r), (6, .int a)] [] := by
    intro i r a hr
    obtain ⟨hR, hi8⟩ := hr
    rw [a_padB, hR] at hno
    refine q_iload_n B dX7_put_72 rfl rfl ?_
    refine q_if_eq (tgt := 88) B dX7_put_73 (by decide) (fun c_73 => ?_) (fun c_73 => ?_)
    · skip
      refine q_bipush (v := -2) B dX7_put_88 rfl ?_
      exact q_iret BM rfl dX7_put_90 ⟨by rw [hR]; first | (rw [if_pos (Or.inl (by rcases Nat.eq_zero_or_pos i with z | z; exact z; exact absurd c_73 (nI_ne0 z (by omega))))]; done) | (rw [if_pos (Or.inr (Or.inl c_78))]; done) | (rw [if_pos (Or.inr (Or.inr c_85))]; done), rfl, rfl⟩
    · skip
      refine q_iload B dX7_put_76 rfl ?_
      refine q_if_eq (tgt := 88) B dX7_put_78 (by decide) (fun c_78 => ?_) (fun c_78 => ?_)
      · skip
        refine q_bipush (v := -2) B dX7_put_88 rfl ?_
        exact q_iret BM rfl dX7_put_90 ⟨by rw [hR]; first | (rw [if_pos (Or.inl (by rcases Nat.eq_zero_or_pos i with z | z; exact z; exact absurd c_73 (nI_ne0 z (by omega))))]; done) | (rw [if_pos (Or.inr (Or.inl c_78))]; done) | (rw [if_pos (Or.inr (Or.inr c_85))]; done), rfl, rfl⟩
      · skip
        refine q_lload B dX7_put_81 rfl ?_
        refine q_lconst (v := 0) B dX7_put_83 rfl ?_
        refine q_lcmp B dX7_put_84 ?_
        refine q_if_eq (tgt := 91) B dX7_put_85 (by decide) (fun c_85 => ?_) (fun c_85 => ?_)
        · skip
          refine q_aload_n B dX7_put_91 rfl rfl ?_
          refine q_getIS B (by omega) kC_X7 (k := 8) (by decide) rfl kf_X7_135 hm.1 dX7_put_92 ?_
          refine q_top hl8 ?_
          refine q_iload_n B dX7_put_95 rfl rfl ?_
          refine q_iadd B dX7_put_96 ?_
          refine q_bipush (v := nI 80) B dX7_put_97 rfl ?_
          refine q_icmp_le (tgt := 105) B dX7_put_99 (by decide) (fun c_99 => ?_) (fun c_99 => ?_)
          · skip
            exfalso
            rw [nI_add] at c_99
            have := (nI_leI (by omega) (by omega)).mp c_99
            rcases hno with h | h
            · exact h.elim (fun h => c_73 (by rw [show i = 0 from h]; rfl)) (fun h => h.elim c_78 (fun h => h c_85))
            · exact absurd h (by show ¬ 80 < len + i; omega)
          · skip
            refine q_bipush (v := -4) B dX7_put_102 rfl ?_
            exact q_iret BM rfl dX7_put_104 ⟨by rw [hR, if_neg (fun h => h.elim (fun h => c_73 (by rw [show i = 0 from h]; rfl)) (fun h => h.elim c_78 (fun h => h c_85)))], rfl, rfl⟩
        · skip
          refine q_bipush (v := -2) B dX7_put_88 rfl ?_
          exact q_iret BM rfl dX7_put_90 ⟨by rw [hR]; first | (rw [if_pos (Or.inl (by rcases Nat.eq_zero_or_pos i with z | z; exact z; exact absurd c_73 (nI_ne0 z (by omega))))]; done) | (rw [if_pos (Or.inr (Or.inl c_78))]; done) | (rw [if_pos (Or.inr (Or.inr c_85))]; done), rfl, rfl⟩
  refine q_iconst (v := nI 0) B dX7_put_5 rfl ?_
  refine q_istore_n B dX7_put_6 rfl (Nat.le_of_ble_eq_true rfl) rfl ?_
  refine q_lload_n B dX7_put_7 rfl rfl ?_
  refine q_lstore B dX7_put_8 (Nat.le_of_ble_eq_true rfl) rfl rfl ?_
  refine q_iconst (v := 1) B dX7_put_10 rfl ?_
  refine q_istore B dX7_put_11 (Nat.le_of_ble_eq_true rfl) rfl ?_
  have hl_13 : ∀ (n i : Nat) (r : Int64) (a : Int32), i + n = 8 → a_pL n i r a = a_pL 8 0 x 1 → q_W Γ mX7_put 0 0 Sh (q_setA I (o + 1) σ) 13 [(0, .ref o), (1, .long x), (3, .int (nI i)), (4, .long r), (6, .int a)] [] := by
    intro n
    induction n with
    | zero =>
      intro i r a hin hinv
      have hi : i = 8 := by omega
      have hR : a_pL 8 0 x 1 = (i, r, a) := hinv.symm
      refine q_iload_n B dX7_put_13 rfl rfl ?_
      refine q_bipush (v := nI 8) B dX7_put_14 rfl ?_
      refine q_icmp_ge (tgt := 72) B dX7_put_16 (by decide) (fun _ => ?_) (fun h => absurd (q_le (by omega) (by omega)) h)
      exact q_tk (j_72 _ _ _ ⟨hR, by omega⟩) rfl (q_ac rfl (q_ac rfl (q_ac rfl (q_ac rfl (q_ac rfl q_an)))))
    | succ n ih =>
      intro i r a hin hinv
      have hiN : i < 8 := by omega
      refine q_iload_n B dX7_put_13 rfl rfl ?_
      refine q_bipush (v := nI 8) B dX7_put_14 rfl ?_
      refine q_icmp_ge (tgt := 72) B dX7_put_16 (by decide) (fun h => absurd h (q_nle hiN (by decide))) (fun _ => ?_)
      refine q_lload B dX7_put_19 rfl ?_
      refine q_ldc2 B kg_X7_148 dX7_put_21 ?_
      refine q_land B dX7_put_24 ?_
      refine q_lconst (v := 0) B dX7_put_25 rfl ?_
      refine q_lcmp B dX7_put_26 ?_
      refine q_if_eq (tgt := 72) B dX7_put_27 (by decide) (fun c_27 => ?_) (fun c_27 => ?_)
      · skip
        have hR : a_pL 8 0 x 1 = (i, r, a) := by rw [← hinv]; unfold a_pL; rw [if_pos c_27]
        exact q_tk (j_72 _ _ _ ⟨hR, by omega⟩) rfl (q_ac rfl (q_ac rfl (q_ac rfl (q_ac rfl (q_ac rfl q_an)))))
      · skip
        refine q_join 57 (if ¬ a = 0 ∧ (nI 33 ≤ a_lo r ∧ a_lo r ≤ nI 126) then 1 else 0) ?_ (fun j_30 => ?_)
        · skip
          refine q_istore B dX7_put_57 (Nat.le_of_ble_eq_true rfl) rfl ?_
          refine q_lload B dX7_put_59 rfl ?_
          refine q_bipush (v := nI 8) B dX7_put_61 rfl ?_
          refine q_lushr B dX7_put_63 ?_
          refine q_lstore B dX7_put_64 (Nat.le_of_ble_eq_true rfl) rfl rfl ?_
          refine q_iinc2 (y := nI (i + 1)) B dX7_put_66 rfl (q_inc1 _) (Nat.le_of_ble_eq_true rfl) rfl ?_
          refine q_goto (tgt := 13) B dX7_put_69 (by decide) ?_
          exact q_tk (ih (i + 1) _ _ (by omega) (by rw [← hinv]; exact (if_neg c_27).symm)) rfl (q_ac rfl (q_ac rfl (q_ac rfl (q_ac rfl (q_ac rfl q_an)))))
        · skip
          refine q_iload B dX7_put_30 rfl ?_
          refine q_if_eq (tgt := 56) B dX7_put_32 (by decide) (fun c_32 => ?_) (fun c_32 => ?_)
          · skip
            refine q_iconst (v := 0) B dX7_put_56 rfl ?_
            exact q_top (by first | (rw [if_pos ⟨c_32, a_b1 c_49⟩]; done) | (rw [if_neg (fun h => h.1 c_32)]; done) | (rw [if_neg (fun h => a_b0 c_49 h.2)]; done)) j_30
          · skip
            refine q_lload B dX7_put_35 rfl ?_
            refine q_ldc2 B kg_X7_148 dX7_put_37 ?_
            refine q_land B dX7_put_40 ?_
            refine q_l2i B dX7_put_41 ?_
            refine q_bipush (v := nI 33) B dX7_put_42 rfl ?_
            refine q_bipush (v := nI 126) B dX7_put_44 rfl ?_
            refine q_rtS B s_in kv_yX7_in kt_yX7_in km_X7_94 rfl (by decide) rfl (Nat.le_of_ble_eq_true rfl) dX7_put_46 ?_
            refine q_if_eq (tgt := 56) B dX7_put_49 (by decide) (fun c_49 => ?_) (fun c_49 => ?_)
            · skip
              refine q_iconst (v := 0) B dX7_put_56 rfl ?_
              exact q_top (by first | (rw [if_pos ⟨c_32, a_b1 c_49⟩]; done) | (rw [if_neg (fun h => h.1 c_32)]; done) | (rw [if_neg (fun h => a_b0 c_49 h.2)]; done)) j_30
            · skip
              refine q_iconst (v := 1) B dX7_put_52 rfl ?_
              refine q_goto (tgt := 57) B dX7_put_53 (by decide) ?_
              exact q_top (by first | (rw [if_pos ⟨c_32, a_b1 c_49⟩]; done) | (rw [if_neg (fun h => h.1 c_32)]; done) | (rw [if_neg (fun h => a_b0 c_49 h.2)]; done)) j_30
  exact q_tk (hl_13 8 0 x 1 (by omega) rfl) rfl (q_ac rfl (q_ac rfl (q_ac rfl (q_ac rfl (q_ac rfl q_an)))))
set_option maxRecDepth 100000 in
set_option maxHeartbeats 4000000 in
theorem s_put_yes {Sh : q_Sh} {I : q_Mem} {σ : a_A} {o : Nat} (hm : mOk Sh o) (h0 : I o 0 = nI 0) {len : Nat} (hlen : len ≤ 80) (hl8 : I o 8 = nI len) {x : Int64} (hno : ¬ (a_padB x ∨ 80 < len + (a_pL 8 0 x 1).1)) : q_Rt mX7_put 1 [.ref o, .long x] Sh (q_setA I (o + 1) σ) (some (.int (nI (len + (a_pL 8 0 x 1).1)))) (q_setA (q_setA (q_setA I (o + 6) (a_padW (I (o + 6)) x len (a_pL 8 0 x 1).1)) o (upd (I o) 8 (nI (len + (a_pL 8 0 x 1).1)))) (o + 1) σ) := by
  refine q_rt_of (by decide) (Nat.le_of_ble_eq_true rfl) fun Γ BM => ?_
  have B := BM.1
  show q_W Γ mX7_put 0 0 Sh (q_setA I (o + 1) σ) 0 [(0, .ref o), (1, .long x)] []
  refine q_aload_n B dX7_put_0 rfl rfl ?_
  refine q_iconst (v := nI 0) B dX7_put_1 rfl ?_
  refine q_putSame B kC_X7 (k := 0) (by decide) rfl kf_X7_32 rfl rfl rfl hm.1 ((congrFun (q_setA_ne (by omega)) _).trans h0) dX7_put_2 ?_
  have j_72 : ∀ (i : Nat) (r : Int64) (a : Int32), (a_pL 8 0 x 1 = (i, r, a) ∧ i ≤ 8) → q_W Γ mX7_put 0 0 Sh (q_setA I (o + 1) σ) 72 [(0, .ref o), (1, .long x), (3, .int (nI i)), (4, .long r), (6, .int a)] [] := by
    intro i r a hr
    obtain ⟨hR, hi8⟩ := hr
    rw [a_padB, hR] at hno
    have g0 : i ≠ 0 := fun q => hno (Or.inl (Or.inl q))
    have ga : ¬ a = 0 := fun q => hno (Or.inl (Or.inr (Or.inl q)))
    have gr : lg_cmp r 0 = 0 := Classical.byContradiction fun q => hno (Or.inl (Or.inr (Or.inr q)))
    have g8 : len + i ≤ 80 := by
      rcases Nat.lt_or_ge 80 (len + i) with q | q
      · exact absurd (Or.inr q) hno
      · exact q
    refine q_iload_n B dX7_put_72 rfl rfl ?_
    refine q_if_eq (tgt := 88) B dX7_put_73 (by decide) (fun h => absurd h (nI_ne0 (by omega) (by omega))) (fun _ => ?_)
    refine q_iload B dX7_put_76 rfl ?_
    refine q_if_eq (tgt := 88) B dX7_put_78 (by decide) (fun h => absurd h ga) (fun _ => ?_)
    refine q_lload B dX7_put_81 rfl ?_
    refine q_lconst (v := 0) B dX7_put_83 rfl ?_
    refine q_lcmp B dX7_put_84 ?_
    refine q_if_eq (tgt := 91) B dX7_put_85 (by decide) (fun _ => ?_) (fun h => absurd gr h)
    refine q_aload_n B dX7_put_91 rfl rfl ?_
    refine q_getIS B (by omega) kC_X7 (k := 8) (by decide) rfl kf_X7_135 hm.1 dX7_put_92 ?_
    refine q_top hl8 ?_
    refine q_iload_n B dX7_put_95 rfl rfl ?_
    refine q_iadd B dX7_put_96 ?_
    refine q_top (nI_add len i) ?_
    refine q_bipush (v := nI 80) B dX7_put_97 rfl ?_
    refine q_icmp_le (tgt := 105) B dX7_put_99 (by decide) (fun _ => ?_) (fun h => absurd (q_le g8 (by decide)) h)
    refine q_iconst (v := nI 0) B dX7_put_105 rfl ?_
    refine q_istore B dX7_put_106 (Nat.le_of_ble_eq_true rfl) rfl ?_
    have hl_108 : ∀ (n y : Nat) , y + n = i → q_W Γ mX7_put 0 0 Sh (q_setA (q_setA I (o + 6) (a_pw y (I (o + 6)) x len i)) (o + 1) σ) 108 [(0, .ref o), (1, .long x), (3, .int (nI i)), (7, .int (nI y))] [] := by
      intro n
      induction n with
      | zero =>
        intro y  hin
        have hy : y = i := by omega
        subst hy
        refine q_iload B dX7_put_108 rfl ?_
        refine q_iload_n B dX7_put_110 rfl rfl ?_
        refine q_icmp_ge (tgt := 148) B dX7_put_111 (by decide) (fun _ => ?_) (fun h => absurd (q_le (Nat.le_refl _) (by omega)) h)
        refine q_aload_n B dX7_put_148 rfl rfl ?_
        refine q_dup B dX7_put_149 rfl ?_
        refine q_getIS B (by omega) kC_X7 (k := 8) (by decide) rfl kf_X7_135 hm.1 dX7_put_150 ?_
        refine q_top ((congrFun (q_setA_ne (by omega)) _).trans hl8) ?_
        refine q_iload_n B dX7_put_153 rfl rfl ?_
        refine q_iadd B dX7_put_154 ?_
        refine q_top (nI_add len y) ?_
        refine q_putIS B (by omega) kC_X7 (k := 8) (by decide) rfl kf_X7_135 rfl rfl rfl hm.1 dX7_put_155 ?_
        refine q_aload_n B dX7_put_158 rfl rfl ?_
        refine q_getIS B (by omega) kC_X7 (k := 8) (by decide) rfl kf_X7_135 hm.1 dX7_put_159 ?_
        refine q_top ((congrFun (q_setA_at _ _ _) _).trans (q_upd_at _ _ _)) ?_
        exact q_iret BM rfl dX7_put_162 ⟨by rw [hR], rfl, by rw [hR, q_setA_ne (l := o + 6) (m := o) (by omega)]; rfl⟩
      | succ n ih =>
        intro y  hin
        have hiN : y < i := by omega
        refine q_iload B dX7_put_108 rfl ?_
        refine q_iload_n B dX7_put_110 rfl rfl ?_
        refine q_icmp_ge (tgt := 148) B dX7_put_111 (by decide) (fun h => absurd h (q_nle hiN (by omega))) (fun _ => ?_)
        refine q_aload_n B dX7_put_114 rfl rfl ?_
        refine q_getR B kC_X7 (k := 7) (by decide) rfl kf_X7_26 hm.1 (mR_pad hm) dX7_put_115 ?_
        refine q_aload_n B dX7_put_118 rfl rfl ?_
        refine q_getIS B (by omega) kC_X7 (k := 8) (by decide) rfl kf_X7_135 hm.1 dX7_put_119 ?_
        refine q_top ((congrFun (q_setA_ne (by omega)) _).trans hl8) ?_
        refine q_iload B dX7_put_122 rfl ?_
        refine q_iadd B dX7_put_124 ?_
        refine q_lload_n B dX7_put_125 rfl rfl ?_
        refine q_bipush (v := nI 8) B dX7_put_126 rfl ?_
        refine q_iload_n B dX7_put_128 rfl rfl ?_
        refine q_iconst (v := nI 1) B dX7_put_129 rfl ?_
        refine q_isub B dX7_put_130 ?_
        refine q_iload B dX7_put_131 rfl ?_
        refine q_isub B dX7_put_133 ?_
        refine q_imul B dX7_put_134 ?_
        refine q_lushr B dX7_put_135 ?_
        refine q_ldc2 B kg_X7_148 dX7_put_136 ?_
        refine q_land B dX7_put_139 ?_
        refine q_l2i B dX7_put_140 ?_
        refine q_iastO (n := len + y) B (by omega) (mA_pad hm) (by simp only [nI_add, q_nI_mul]) (by omega) (by decide) dX7_put_141 ?_
        refine q_iinc2 (y := nI (y + 1)) B dX7_put_142 rfl (q_inc1 _) (Nat.le_of_ble_eq_true rfl) rfl ?_
        refine q_goto (tgt := 108) B dX7_put_145 (by decide) ?_
        exact q_tkm (ih (y + 1) (by omega)) (by rw [q_setA_at, q_setA_setA, ← a_pw_s]; rfl) rfl (q_ac rfl (q_ac rfl (q_ac rfl (q_ac rfl q_an))))
    exact q_tkm (hl_108 i 0 (by omega)) (by rw [a_pw_0, q_setA_self]) rfl (q_ac rfl (q_ac rfl (q_ac rfl (q_ac rfl q_an))))
  refine q_iconst (v := nI 0) B dX7_put_5 rfl ?_
  refine q_istore_n B dX7_put_6 rfl (Nat.le_of_ble_eq_true rfl) rfl ?_
  refine q_lload_n B dX7_put_7 rfl rfl ?_
  refine q_lstore B dX7_put_8 (Nat.le_of_ble_eq_true rfl) rfl rfl ?_
  refine q_iconst (v := 1) B dX7_put_10 rfl ?_
  refine q_istore B dX7_put_11 (Nat.le_of_ble_eq_true rfl) rfl ?_
  have hl_13 : ∀ (n i : Nat) (r : Int64) (a : Int32), i + n = 8 → a_pL n i r a = a_pL 8 0 x 1 → q_W Γ mX7_put 0 0 Sh (q_setA I (o + 1) σ) 13 [(0, .ref o), (1, .long x), (3, .int (nI i)), (4, .long r), (6, .int a)] [] := by
    intro n
    induction n with
    | zero =>
      intro i r a hin hinv
      have hi : i = 8 := by omega
      have hR : a_pL 8 0 x 1 = (i, r, a) := hinv.symm
      refine q_iload_n B dX7_put_13 rfl rfl ?_
      refine q_bipush (v := nI 8) B dX7_put_14 rfl ?_
      refine q_icmp_ge (tgt := 72) B dX7_put_16 (by decide) (fun _ => ?_) (fun h => absurd (q_le (by omega) (by omega)) h)
      exact q_tk (j_72 _ _ _ ⟨hR, by omega⟩) rfl (q_ac rfl (q_ac rfl (q_ac rfl (q_ac rfl (q_ac rfl q_an)))))
    | succ n ih =>
      intro i r a hin hinv
      have hiN : i < 8 := by omega
      refine q_iload_n B dX7_put_13 rfl rfl ?_
      refine q_bipush (v := nI 8) B dX7_put_14 rfl ?_
      refine q_icmp_ge (tgt := 72) B dX7_put_16 (by decide) (fun h => absurd h (q_nle hiN (by decide))) (fun _ => ?_)
      refine q_lload B dX7_put_19 rfl ?_
      refine q_ldc2 B kg_X7_148 dX7_put_21 ?_
      refine q_land B dX7_put_24 ?_
      refine q_lconst (v := 0) B dX7_put_25 rfl ?_
      refine q_lcmp B dX7_put_26 ?_
      refine q_if_eq (tgt := 72) B dX7_put_27 (by decide) (fun c_27 => ?_) (fun c_27 => ?_)
      · skip
        have hR : a_pL 8 0 x 1 = (i, r, a) := by rw [← hinv]; unfold a_pL; rw [if_pos c_27]
        exact q_tk (j_72 _ _ _ ⟨hR, by omega⟩) rfl (q_ac rfl (q_ac rfl (q_ac rfl (q_ac rfl (q_ac rfl q_an)))))
      · skip
        refine q_join 57 (if ¬ a = 0 ∧ (nI 33 ≤ a_lo r ∧ a_lo r ≤ nI 126) then 1 else 0) ?_ (fun j_30 => ?_)
        · skip
          refine q_istore B dX7_put_57 (Nat.le_of_ble_eq_true rfl) rfl ?_
          refine q_lload B dX7_put_59 rfl ?_
          refine q_bipush (v := nI 8) B dX7_put_61 rfl ?_
          refine q_lushr B dX7_put_63 ?_
          refine q_lstore B dX7_put_64 (Nat.le_of_ble_eq_true rfl) rfl rfl ?_
          refine q_iinc2 (y := nI (i + 1)) B dX7_put_66 rfl (q_inc1 _) (Nat.le_of_ble_eq_true rfl) rfl ?_
          refine q_goto (tgt := 13) B dX7_put_69 (by decide) ?_
          exact q_tk (ih (i + 1) _ _ (by omega) (by rw [← hinv]; exact (if_neg c_27).symm)) rfl (q_ac rfl (q_ac rfl (q_ac rfl (q_ac rfl (q_ac rfl q_an)))))
        · skip
          refine q_iload B dX7_put_30 rfl ?_
          refine q_if_eq (tgt := 56) B dX7_put_32 (by decide) (fun c_32 => ?_) (fun c_32 => ?_)
          · skip
            refine q_iconst (v := 0) B dX7_put_56 rfl ?_
            exact q_top (by first | (rw [if_pos ⟨c_32, a_b1 c_49⟩]; done) | (rw [if_neg (fun h => h.1 c_32)]; done) | (rw [if_neg (fun h => a_b0 c_49 h.2)]; done)) j_30
          · skip
            refine q_lload B dX7_put_35 rfl ?_
            refine q_ldc2 B kg_X7_148 dX7_put_37 ?_
            refine q_land B dX7_put_40 ?_
            refine q_l2i B dX7_put_41 ?_
            refine q_bipush (v := nI 33) B dX7_put_42 rfl ?_
            refine q_bipush (v := nI 126) B dX7_put_44 rfl ?_
            refine q_rtS B s_in kv_yX7_in kt_yX7_in km_X7_94 rfl (by decide) rfl (Nat.le_of_ble_eq_true rfl) dX7_put_46 ?_
            refine q_if_eq (tgt := 56) B dX7_put_49 (by decide) (fun c_49 => ?_) (fun c_49 => ?_)
            · skip
              refine q_iconst (v := 0) B dX7_put_56 rfl ?_
              exact q_top (by first | (rw [if_pos ⟨c_32, a_b1 c_49⟩]; done) | (rw [if_neg (fun h => h.1 c_32)]; done) | (rw [if_neg (fun h => a_b0 c_49 h.2)]; done)) j_30
            · skip
              refine q_iconst (v := 1) B dX7_put_52 rfl ?_
              refine q_goto (tgt := 57) B dX7_put_53 (by decide) ?_
              exact q_top (by first | (rw [if_pos ⟨c_32, a_b1 c_49⟩]; done) | (rw [if_neg (fun h => h.1 c_32)]; done) | (rw [if_neg (fun h => a_b0 c_49 h.2)]; done)) j_30
  exact q_tk (hl_13 8 0 x 1 (by omega) rfl) rfl (q_ac rfl (q_ac rfl (q_ac rfl (q_ac rfl (q_ac rfl q_an)))))
