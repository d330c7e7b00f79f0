theorem a_co_le (X : a_A) : ∀ k n σ, (a_co X k n σ).1 ≤ n + k := by
  intro k
  induction k with
  | zero => intro n σ; exact Nat.le_refl n
  | succ k ih =>
    intro n σ
    unfold a_co
    split
    · have := ih (n + 1) (a_doO σ X n); omega
    · show n ≤ _; omega
theorem p_rl_n (P : a_A) (len : Nat) : ∀ k n O a u, a ≤ len → n ≤ 27 → (u = true → 3 * n ≤ a + 1) → len ≤ 80 → (p_rl P len k n O a u).1 ≤ 27 := by
  intro k
  induction k with
  | zero => intro n O a u _ h _ _; exact h
  | succ k ih =>
    intro n O a u ha hn hu hl
    unfold p_rl
    split
    · rename_i h
      split
      · have e1 := fun h => (p_fin_adv (P := P) (len := len) (n := n) (a := a + 1) (O := O) (u := true) h).1
        have e2 := p_fin_le (P := P) (len := len) (n := n) (O := O) (u := true) (a := a + 1) h.2
        have e4 := hu h.1
        refine ih _ _ _ _ e2 ?_ ?_ hl
        · unfold pN; split
          · rename_i q; have := e1 q; omega
          · exact hn
        · intro q; have := e1 q; unfold pN; rw [if_pos q]; omega
      · exact hn
    · exact hn
theorem p_all_n (P : a_A) {len : Nat} (O : a_A) (hl : len ≤ 80) : (p_all P len O).1 ≤ 27 := by
  have f1 := fun h => (p_fin_adv (P := P) (len := len) (n := 0) (a := 0) (O := O) (u := true) h).1
  have f2 := p_fin_le (P := P) (len := len) (n := 0) (O := O) (u := true) (Nat.zero_le len)
  unfold p_all
  refine p_rl_n P len _ _ _ _ _ f2 ?_ ?_ hl
  · unfold pN; split <;> omega
  · intro h; have := f1 h; unfold pN; rw [if_pos h]; omega
/-- the memory behind carryOut, the row s apart -/
def a_coM (I : q_Mem) (o len : Nat) (σ : a_A) : q_Mem := q_setA (a_rec (a_rdM I o len) o σ) o (upd (a_rec (a_rdM I o len) o σ o) 8 0)
set_option maxRecDepth 100000 in
set_option maxHeartbeats 4000000 in
theorem s_carryOut_no {Sh : q_Sh} {I : q_Mem} {σ : a_A} {o : Nat} (hm : mOk Sh o) {T F : Nat} (hW : a_W T F σ) (h0 : I o 0 = nI 0) {len : Nat} (hlen : len ≤ 80) (hl8 : I o 8 = nI len) (hf : (p_all (I (o + 6)) len (I (o + 7))).2.2.2 = false) : q_Rt mX7_carryOut 7 [.ref o] Sh (q_setA I (o + 1) σ) (some (.int (-3))) (q_setA (a_rdM I o len) (o + 1) σ) := by
  refine q_rt_of (by decide) (Nat.le_of_ble_eq_true rfl) fun Γ BM => ?_
  have B := BM.1
  have hle : ∀ x : Nat, x ≤ len → ¬ nI x = -6 := fun x hx => a_nI_ne6 (by omega)
  show q_W Γ mX7_carryOut 0 0 Sh (q_setA I (o + 1) σ) 0 [(0, .ref o)] []
  refine q_aload_n B dX7_carryOut_0 rfl rfl ?_
  refine q_iconst (v := nI 0) B dX7_carryOut_1 rfl ?_
  refine q_putSame B kC_X7 (k := 0) (by decide) rfl kf_X7_32 rfl rfl rfl hm.1 ((congrFun (q_setA_ne (by omega)) _).trans h0) dX7_carryOut_2 ?_
  refine q_aload_n B dX7_carryOut_5 rfl rfl ?_
  refine q_rtV B (s_readsS hm hlen hl8) kv_yX7_reads ki_yX7_reads ks_yX7_reads km_X7_179 rfl (ci := 7) rfl rfl hm.1 (by decide) rfl (Nat.le_of_ble_eq_true rfl) dX7_carryOut_6 ?_
  rw [hf]
  refine q_bipush (v := -6) B dX7_carryOut_9 rfl ?_
  refine q_icmp_eq (tgt := 17) B dX7_carryOut_11 (by decide) (fun h => absurd h ((by rw [if_neg Bool.false_ne_true]; exact hle _ (p_all_le _ _ hlen)))) (fun _ => ?_)
  refine q_bipush (v := -3) B dX7_carryOut_14 rfl ?_
  exact q_iret BM rfl dX7_carryOut_16 ⟨rfl, rfl, rfl⟩
set_option maxRecDepth 100000 in
set_option maxHeartbeats 4000000 in
theorem s_carryOut_yes {Sh : q_Sh} {I : q_Mem} {σ : a_A} {o : Nat} (hm : mOk Sh o) {T F : Nat} (hW : a_W T F σ) (h0 : I o 0 = nI 0) {len : Nat} (hlen : len ≤ 80) (hl8 : I o 8 = nI len) {u : Nat} (hu : u ≤ 6) (hu4 : I o 4 = nI u) (hf : (p_all (I (o + 6)) len (I (o + 7))).2.2.2 = true) : q_Rt mX7_carryOut 7 [.ref o] Sh (q_setA I (o + 1) σ) (some (.int (nI (a_co (p_all (I (o + 6)) len (I (o + 7))).2.1 (p_all (I (o + 6)) len (I (o + 7))).1 0 σ).1))) (q_setA (a_coM I o len σ) (o + 1) (a_co (p_all (I (o + 6)) len (I (o + 7))).2.1 (p_all (I (o + 6)) len (I (o + 7))).1 0 σ).2) := by
  refine q_rt_of (by decide) (Nat.le_of_ble_eq_true rfl) fun Γ BM => ?_
  have B := BM.1
  have hM : (p_all (I (o + 6)) len (I (o + 7))).1 ≤ 27 := p_all_n _ _ hlen
  generalize hR : (p_all (I (o + 6)) len (I (o + 7))) = R at hf hM
  show q_W Γ mX7_carryOut 0 0 Sh (q_setA I (o + 1) σ) 0 [(0, .ref o)] []
  refine q_aload_n B dX7_carryOut_0 rfl rfl ?_
  refine q_iconst (v := nI 0) B dX7_carryOut_1 rfl ?_
  refine q_putSame B kC_X7 (k := 0) (by decide) rfl kf_X7_32 rfl rfl rfl hm.1 ((congrFun (q_setA_ne (by omega)) _).trans h0) dX7_carryOut_2 ?_
  refine q_aload_n B dX7_carryOut_5 rfl rfl ?_
  refine q_rtV B (s_readsS hm hlen hl8) kv_yX7_reads ki_yX7_reads ks_yX7_reads km_X7_179 rfl (ci := 7) rfl rfl hm.1 (by decide) rfl (Nat.le_of_ble_eq_true rfl) dX7_carryOut_6 ?_
  rw [hR, hf]
  refine q_bipush (v := -6) B dX7_carryOut_9 rfl ?_
  refine q_icmp_eq (tgt := 17) B dX7_carryOut_11 (by decide) (fun _ => ?_) (fun h => absurd ((if_pos rfl)) h)
  refine q_aload_n B dX7_carryOut_17 rfl rfl ?_
  refine q_rtV B (s_records hm hu ((a_rdM_o (by decide) (by decide) (by decide)).trans hu4)) kv_yX7_records ki_yX7_records ks_yX7_records km_X7_102 rfl (ci := 7) rfl rfl hm.1 (by decide) rfl (Nat.le_of_ble_eq_true rfl) dX7_carryOut_18 ?_
  refine q_aload_n B dX7_carryOut_21 rfl rfl ?_
  refine q_iconst (v := 0) B dX7_carryOut_22 rfl ?_
  refine q_putIS B (by omega) kC_X7 (k := 8) (by decide) rfl kf_X7_135 rfl rfl rfl hm.1 dX7_carryOut_23 ?_
  have hor : a_coM I o len σ (o + 7) = R.2.1 := by
    unfold a_coM
    rw [q_setA_ne (by omega), a_rec_at (by omega) (by omega)]
    unfold a_rdM
    rw [q_setA_ne (by omega), q_setA_at, hR]
  have hob : a_coM I o len σ o 12 = nI R.1 := by
    unfold a_coM
    rw [q_setA_at, q_upd_ne (by decide), a_rec_o (by decide)]
    unfold a_rdM
    rw [q_setA_at, mp_o (by decide) (by decide), q_upd_at, hR]
  refine q_mem_eq (I2 := q_setA (a_coM I o len σ) (o + 1) σ) rfl ?_
  refine q_iconst (v := nI 0) B dX7_carryOut_26 rfl ?_
  refine q_istore_n B dX7_carryOut_27 rfl (Nat.le_of_ble_eq_true rfl) rfl ?_
  have hl_28 : ∀ (n i : Nat) (σ1 : a_A), i + n = R.1 → (a_co R.2.1 n i σ1 = a_co R.2.1 R.1 0 σ ∧ ∃ T F, a_W T F σ1) → q_W Γ mX7_carryOut 0 0 Sh (q_setA (a_coM I o len σ) (o + 1) σ1) 28 [(0, .ref o), (1, .int (nI i))] [] := by
    intro n
    induction n with
    | zero =>
      intro i σ1 hin hinv
      have hi : i = R.1 := by omega
      obtain ⟨g1, T1, F1, hW1⟩ := hinv
      refine q_iload_n B dX7_carryOut_28 rfl rfl ?_
      refine q_aload_n B dX7_carryOut_29 rfl rfl ?_
      refine q_getIS B (by omega) kC_X7 (k := 12) (by decide) rfl kf_X7_164 hm.1 dX7_carryOut_30 ?_
      refine q_top hob ?_
      refine q_icmp_ge (tgt := 61) B dX7_carryOut_33 (by decide) (fun _ => ?_) (fun h => absurd (q_le (by omega) (by omega)) h)
      refine q_aload_n B dX7_carryOut_61 rfl rfl ?_
      refine q_getIS B (by omega) kC_X7 (k := 12) (by decide) rfl kf_X7_164 hm.1 dX7_carryOut_62 ?_
      refine q_top (hob.trans (by rw [← hi])) ?_
      exact q_iret BM rfl dX7_carryOut_65 ⟨by rw [hR, ← g1]; rfl, rfl, by rw [hR, ← g1]; rfl⟩
    | succ n ih =>
      intro i σ1 hin hinv
      have hiN : i < R.1 := by omega
      obtain ⟨g1, T1, F1, hW1⟩ := hinv
      refine q_iload_n B dX7_carryOut_28 rfl rfl ?_
      refine q_aload_n B dX7_carryOut_29 rfl rfl ?_
      refine q_getIS B (by omega) kC_X7 (k := 12) (by decide) rfl kf_X7_164 hm.1 dX7_carryOut_30 ?_
      refine q_top hob ?_
      refine q_icmp_ge (tgt := 61) B dX7_carryOut_33 (by decide) (fun h => absurd h (q_nle hiN (by omega))) (fun _ => ?_)
      refine q_aload_n B dX7_carryOut_36 rfl rfl ?_
      refine q_iconst (v := nI 5) B dX7_carryOut_37 rfl ?_
      refine q_iload_n B dX7_carryOut_38 rfl rfl ?_
      refine q_imul B dX7_carryOut_39 ?_
      refine q_top (q_nI_mul 5 i) ?_
      refine q_rtV B (s_refuses hm hor (by omega)) kv_yX7_refuses ki_yX7_refuses ks_yX7_refuses km_X7_182 rfl (ci := 7) rfl rfl hm.1 (by decide) rfl (Nat.le_of_ble_eq_true rfl) dX7_carryOut_40 ?_
      refine q_if_eq (tgt := 48) B dX7_carryOut_43 (by decide) (fun c_43 => ?_) (fun c_43 => ?_)
      · skip
        refine q_aload_n B dX7_carryOut_48 rfl rfl ?_
        refine q_iconst (v := nI 5) B dX7_carryOut_49 rfl ?_
        refine q_iload_n B dX7_carryOut_50 rfl rfl ?_
        refine q_imul B dX7_carryOut_51 ?_
        refine q_top (q_nI_mul 5 i) ?_
        refine q_rtV B (s_does hm hW1 hor (by omega) c_43) kv_yX7_does ki_yX7_does ks_yX7_does km_X7_185 rfl (ci := 7) rfl rfl hm.1 (by decide) rfl (Nat.le_of_ble_eq_true rfl) dX7_carryOut_52 ?_
        refine q_iinc2 (y := nI (i + 1)) B dX7_carryOut_55 rfl (q_inc1 _) (Nat.le_of_ble_eq_true rfl) rfl ?_
        refine q_goto (tgt := 28) B dX7_carryOut_58 (by decide) ?_
        exact q_tk (ih (i + 1) _ (by omega) ⟨by rw [← g1]; exact (if_pos c_43).symm, a_doO_W hW1 c_43⟩) rfl (q_ac rfl (q_ac rfl q_an))
      · skip
        have hs : a_co R.2.1 R.1 0 σ = (i, σ1) := by rw [← g1]; unfold a_co; rw [if_neg c_43]
        refine q_iload_n B dX7_carryOut_46 rfl rfl ?_
        exact q_iret BM rfl dX7_carryOut_47 ⟨by rw [hR, hs], rfl, by rw [hR, hs]⟩
  exact q_tk (hl_28 R.1 0 σ (by omega) ⟨rfl, _, _, hW⟩) rfl (q_ac rfl (q_ac rfl q_an))
