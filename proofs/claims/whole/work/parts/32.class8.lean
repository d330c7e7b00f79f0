theorem Rc_M {T F b : Nat} {I : q_Mem} {σ : a_A} {v : Int32} (h : Rc T F b I σ) : Rc T F b (q_setA I b (upd (I b) 0 v)) (upd σ 0 v) :=
  have hW := a_W_free (v := v) h.2.2 (Or.inl rfl)
  have hF := h.1.1.2
  ⟨Rd_M h.1, Rw_keep h.2.1 h.2.2 hW Kw.b0 (fun g hg => q_upd_ne (by omega)), hW⟩
set_option maxRecDepth 100000 in
set_option maxHeartbeats 4000000 in
theorem s_X0_passMinute {Sh : q_Sh} {I : q_Mem} {σ : a_A} {b T F : Nat} (hc : cOk Sh b) (hR : Rc T F b I σ) : q_Rp mX0_passMinute 3 [.ref b] Sh (I) (fun w I2 => w = some (.int (a_how (a_minute σ) (nI 2) - a_how σ (nI 2))) ∧ Rc T F b I2 (a_minute σ) ∧ Fr b I I2) := by
  refine q_rp_of (by decide) (Nat.le_of_ble_eq_true rfl) fun Γ BM => ?_
  have B := BM.1
  have hFn := hR.1.1.2
  show q_W Γ mX0_passMinute 0 0 Sh (I) 0 [(0, .ref b)] []
  refine q_iconst (v := 0) B dX0_passMinute_0 rfl ?_
  refine q_istore_n B dX0_passMinute_1 rfl (Nat.le_of_ble_eq_true rfl) rfl ?_
  have hl_2 : ∀ (n i : Nat) (σ1 : a_A) (J : q_Mem), i + n = F → (q_fold a_min1 i σ = σ1 ∧ Rc T F b J σ1 ∧ Fr b I J) → q_W Γ mX0_passMinute 0 0 Sh J 2 [(0, .ref b), (1, .int (nI i))] [] := by
    intro n
    induction n with
    | zero =>
      intro i σ1 J hin hinv
      have hi : i = F := by omega
      subst hi
      obtain ⟨e1, hR1, hF1⟩ := hinv
      have hF := hR1.1.2.1.2.2
      refine q_iload_n B dX0_passMinute_2 rfl rfl ?_
      refine q_aload_n B dX0_passMinute_3 rfl rfl ?_
      refine q_getI2 B kC_X0 (k := 2) (by decide) rfl kf_X0_18 hc.1 hF dX0_passMinute_4 ?_
      refine q_icmp_ge (tgt := 21) B dX0_passMinute_7 (by decide) (fun _ => ?_) (fun h => absurd (q_le (Nat.le_refl _) (by omega)) h)
      refine q_iconst (v := 0) B dX0_passMinute_21 rfl ?_
      refine q_istore_n B dX0_passMinute_22 rfl (Nat.le_of_ble_eq_true rfl) rfl ?_
      refine q_iconst (v := 0) B dX0_passMinute_23 rfl ?_
      refine q_istore_n B dX0_passMinute_24 rfl (Nat.le_of_ble_eq_true rfl) rfl ?_
      have hl_25 : ∀ (n j : Nat) (σ2 : a_A) (c : Int32) (J2 : q_Mem), j + n = i → (q_fold a_min2 j σ1 = σ2 ∧ Rc T i b J2 σ2 ∧ Fr b I J2 ∧ c = a_how σ2 (nI 2) - a_how σ1 (nI 2)) → q_W Γ mX0_passMinute 0 0 Sh J2 25 [(0, .ref b), (1, .int c), (2, .int (nI j))] [] := by
        intro n
        induction n with
        | zero =>
          intro j σ2 c J2 hin hinv2
          have hj : j = i := by omega
          subst hj
          obtain ⟨e2, hR2, hF2, ec⟩ := hinv2
          have hF3 := hR2.1.2.1.2.2
          obtain ⟨k1, k2⟩ := a_minute_how hR.2.2 e1 e2
          have hmin : a_minute σ = upd (q_fold a_min3 T σ2) 0 (q_fold a_min3 T σ2 0 + 1) := by unfold a_minute; dsimp only; rw [a_W_F hR.2.2, a_W_T hR.2.2, e1, e2]
          refine q_iload_n B dX0_passMinute_25 rfl rfl ?_
          refine q_aload_n B dX0_passMinute_26 rfl rfl ?_
          refine q_getI2 B kC_X0 (k := 2) (by decide) rfl kf_X0_18 hc.1 hF3 dX0_passMinute_27 ?_
          refine q_icmp_ge (tgt := 47) B dX0_passMinute_30 (by decide) (fun _ => ?_) (fun h => absurd (q_le (Nat.le_refl _) (by omega)) h)
          refine q_aload_n B dX0_passMinute_47 rfl rfl ?_
          refine q_rpV B (s_X0_losePatience hc hR2) kv_yX0_losePatience ki_yX0_losePatience ks_yX0_losePatience km_X0_107 rfl (ci := 0) rfl rfl hc.1 (by decide) rfl (Nat.le_of_ble_eq_true rfl) dX0_passMinute_48 (fun w J4 hx => ?_)
          obtain ⟨rfl, h1, h2⟩ := hx
          refine q_aload_n B dX0_passMinute_51 rfl rfl ?_
          refine q_dup B dX0_passMinute_52 rfl ?_
          refine q_getI2 B kC_X0 (k := 0) (by decide) rfl kf_X0_9 hc.1 h1.1.2.1.1 dX0_passMinute_53 ?_
          refine q_iconst (v := 1) B dX0_passMinute_56 rfl ?_
          refine q_iadd B dX0_passMinute_57 ?_
          refine q_putI2 B kC_X0 (k := 0) (by decide) rfl kf_X0_9 rfl rfl rfl hc.1 dX0_passMinute_58 ?_
          refine q_iload_n B dX0_passMinute_61 rfl rfl ?_
          exact q_iret BM rfl dX0_passMinute_62 ⟨rfl, by rw [ec, k1, k2], by rw [hmin]; exact Rc_M h1, (hF2.tr h2).tr (Fr.set (Nat.le_refl _) (by omega))⟩
        | succ n ih =>
          intro j σ2 c J2 hin hinv2
          have hiN : j < i := by omega
          obtain ⟨e2, hR2, hF2, ec⟩ := hinv2
          have hF3 := hR2.1.2.1.2.2
          refine q_iload_n B dX0_passMinute_25 rfl rfl ?_
          refine q_aload_n B dX0_passMinute_26 rfl rfl ?_
          refine q_getI2 B kC_X0 (k := 2) (by decide) rfl kf_X0_18 hc.1 hF3 dX0_passMinute_27 ?_
          refine q_icmp_ge (tgt := 47) B dX0_passMinute_30 (by decide) (fun h => absurd h (q_nle hiN (by omega))) (fun _ => ?_)
          refine q_iload_n B dX0_passMinute_33 rfl rfl ?_
          refine q_aload_n B dX0_passMinute_34 rfl rfl ?_
          refine q_iload_n B dX0_passMinute_35 rfl rfl ?_
          refine q_rpV B (s_X0_workOf hc hR2 hiN) kv_yX0_workOf ki_yX0_workOf ks_yX0_workOf km_X0_104 rfl (ci := 0) rfl rfl hc.1 (by decide) rfl (Nat.le_of_ble_eq_true rfl) dX0_passMinute_36 (fun w J3 hx => ?_)
          obtain ⟨rfl, h1, h2⟩ := hx
          refine q_iadd B dX0_passMinute_39 ?_
          refine q_istore_n B dX0_passMinute_40 rfl (Nat.le_of_ble_eq_true rfl) rfl ?_
          refine q_iinc2 (y := nI (j + 1)) B dX0_passMinute_41 rfl (q_inc1 _) (Nat.le_of_ble_eq_true rfl) rfl ?_
          refine q_goto (tgt := 25) B dX0_passMinute_44 (by decide) ?_
          exact q_tk (ih (j + 1) (a_min2 j σ2) (c + (a_how (a_min2 j σ2) (nI 2) - a_how σ2 (nI 2))) J3 (by omega) ⟨by rw [← e2]; rfl, h1, hF2.tr h2, by rw [ec, a_tele]⟩) rfl (q_ac rfl (q_ac rfl (q_ac rfl q_an)))
      exact q_tk (hl_25 i 0 σ1 0 J (by omega) ⟨rfl, hR1, hF1, (Int32.sub_self _).symm⟩) rfl (q_ac rfl (q_ac rfl (q_ac rfl q_an)))
    | succ n ih =>
      intro i σ1 J hin hinv
      have hiN : i < F := by omega
      obtain ⟨e1, hR1, hF1⟩ := hinv
      have hF := hR1.1.2.1.2.2
      refine q_iload_n B dX0_passMinute_2 rfl rfl ?_
      refine q_aload_n B dX0_passMinute_3 rfl rfl ?_
      refine q_getI2 B kC_X0 (k := 2) (by decide) rfl kf_X0_18 hc.1 hF dX0_passMinute_4 ?_
      refine q_icmp_ge (tgt := 21) B dX0_passMinute_7 (by decide) (fun h => absurd h (q_nle hiN (by omega))) (fun _ => ?_)
      refine q_aload_n B dX0_passMinute_10 rfl rfl ?_
      refine q_iload_n B dX0_passMinute_11 rfl rfl ?_
      refine q_rpV B (s_X0_takeThing hc hR1 hiN) kv_yX0_takeThing ki_yX0_takeThing ks_yX0_takeThing km_X0_100 rfl (ci := 0) rfl rfl hc.1 (by decide) rfl (Nat.le_of_ble_eq_true rfl) dX0_passMinute_12 (fun w J2 hx => ?_)
      obtain ⟨rfl, h1, h2⟩ := hx
      refine q_iinc2 (y := nI (i + 1)) B dX0_passMinute_15 rfl (q_inc1 _) (Nat.le_of_ble_eq_true rfl) rfl ?_
      refine q_goto (tgt := 2) B dX0_passMinute_18 (by decide) ?_
      exact q_tk (ih (i + 1) (a_min1 i σ1) J2 (by omega) ⟨by rw [← e1]; rfl, h1, hF1.tr h2⟩) rfl (q_ac rfl (q_ac rfl q_an))
  exact q_tk (hl_2 F 0 σ I (by omega) ⟨rfl, hR, Fr.rf⟩) rfl (q_ac rfl (q_ac rfl q_an))
set_option maxRecDepth 100000 in
set_option maxHeartbeats 4000000 in
theorem s_X0_passMinutes {Sh : q_Sh} {I : q_Mem} {σ : a_A} {b T F : Nat} (hc : cOk Sh b) (hR : Rc T F b I σ) {k : Nat} (hk : k < 2 ^ 31) : q_Rp mX0_passMinutes 4 [.ref b, .int (nI k)] Sh (I) (fun w I2 => w = some (.int (a_how (a_minutes k σ) (nI 2) - a_how σ (nI 2))) ∧ Rc T F b I2 (a_minutes k σ) ∧ Fr b I I2) := by
  refine q_rp_of (by decide) (Nat.le_of_ble_eq_true rfl) fun Γ BM => ?_
  have B := BM.1
  show q_W Γ mX0_passMinutes 0 0 Sh (I) 0 [(0, .ref b), (1, .int (nI k))] []
  refine q_aload_n B dX0_passMinutes_0 rfl rfl ?_
  refine q_getI2 B kC_X0 (k := 0) (by decide) rfl kf_X0_9 hc.1 hR.1.2.1.1 dX0_passMinutes_1 ?_
  refine q_iload_n B dX0_passMinutes_4 rfl rfl ?_
  refine q_iadd B dX0_passMinutes_5 ?_
  refine q_istore_n B dX0_passMinutes_6 rfl (Nat.le_of_ble_eq_true rfl) rfl ?_
  refine q_iconst (v := 0) B dX0_passMinutes_7 rfl ?_
  refine q_istore_n B dX0_passMinutes_8 rfl (Nat.le_of_ble_eq_true rfl) rfl ?_
  have j_38 : ∀ (σ1 : a_A) (c : Int32) (J : q_Mem) (y : Int32), a_how σ1 (nI 2) = a_how (a_minutes k σ) (nI 2) ∧ upd σ1 0 (σ 0 + nI k) = a_minutes k σ ∧ Rc T F b J σ1 ∧ Fr b I J ∧ c = a_how σ1 (nI 2) - a_how σ (nI 2) → q_W Γ mX0_passMinutes 0 0 Sh J 38 [(0, .ref b), (1, .int (nI k)), (2, .int (σ 0 + nI k)), (3, .int c), (4, .int y)] [] := by
    intro σ1 c J y hr
    obtain ⟨eh, eu, hR1, hF1, ec⟩ := hr
    refine q_aload_n B dX0_passMinutes_38 rfl rfl ?_
    refine q_iload_n B dX0_passMinutes_39 rfl rfl ?_
    refine q_putI2 B kC_X0 (k := 0) (by decide) rfl kf_X0_9 rfl rfl rfl hc.1 dX0_passMinutes_40 ?_
    refine q_iload_n B dX0_passMinutes_43 rfl rfl ?_
    exact q_iret BM rfl dX0_passMinutes_44 ⟨rfl, by rw [ec, eh], by rw [← eu]; exact Rc_M hR1, hF1.tr (Fr.set (Nat.le_refl _) (by omega))⟩
  refine q_iconst (v := nI 0) B dX0_passMinutes_9 rfl ?_
  refine q_istore B dX0_passMinutes_10 (Nat.le_of_ble_eq_true rfl) rfl ?_
  have hl_12 : ∀ (n i : Nat) (σ1 : a_A) (c : Int32) (J : q_Mem), i + n = k → (a_minutes i σ = σ1 ∧ Rc T F b J σ1 ∧ Fr b I J ∧ c = a_how σ1 (nI 2) - a_how σ (nI 2)) → q_W Γ mX0_passMinutes 0 0 Sh J 12 [(0, .ref b), (1, .int (nI k)), (2, .int (σ 0 + nI k)), (3, .int c), (4, .int (nI i))] [] := by
    intro n
    induction n with
    | zero =>
      intro i σ1 c J hin hinv
      have hi : i = k := by omega
      subst hi
      obtain ⟨e1, hR1, hF1, ec⟩ := hinv
      have eq1 : a_how σ1 (nI 2) = a_how (a_minutes i σ) (nI 2) := by rw [e1]
      have eq2 : upd σ1 0 (σ 0 + nI i) = a_minutes i σ := by rw [← e1]; exact a_upd_same (a_minutes_0 i)
      refine q_iload B dX0_passMinutes_12 rfl ?_
      refine q_iload_n B dX0_passMinutes_14 rfl rfl ?_
      refine q_icmp_ge (tgt := 38) B dX0_passMinutes_15 (by decide) (fun _ => ?_) (fun h => absurd (q_le (Nat.le_refl _) hk) h)
      exact q_tk (j_38 σ1 c J _ ⟨eq1, eq2, hR1, hF1, ec⟩) rfl (q_ac rfl (q_ac rfl (q_ac rfl (q_ac rfl (q_ac rfl q_an)))))
    | succ n ih =>
      intro i σ1 c J hin hinv
      have hiN : i < k := by omega
      obtain ⟨e1, hR1, hF1, ec⟩ := hinv
      refine q_iload B dX0_passMinutes_12 rfl ?_
      refine q_iload_n B dX0_passMinutes_14 rfl rfl ?_
      refine q_icmp_ge (tgt := 38) B dX0_passMinutes_15 (by decide) (fun h => absurd h (q_nle hiN hk)) (fun _ => ?_)
      refine q_aload_n B dX0_passMinutes_18 rfl rfl ?_
      refine q_rtV B (s_X0_hasThingHere hc hR1) kv_yX0_hasThingHere ki_yX0_hasThingHere ks_yX0_hasThingHere km_X0_92 rfl (ci := 0) rfl rfl hc.1 (by decide) rfl (Nat.le_of_ble_eq_true rfl) dX0_passMinutes_19 ?_
      refine q_if_eq (tgt := 38) B dX0_passMinutes_22 (by decide) (fun c_22 => ?_) (fun c_22 => ?_)
      · skip
        have hh : a_here (a_minutes i σ) = false := by rw [e1]; cases hq : a_here σ1 with
          | true => rw [hq] at c_22; exact absurd c_22 (by decide)
          | false => rfl
        have hid := a_idles hR.2.2 hh (k - i)
        rw [show i + (k - i) = k by omega, a_minutes_0 k, e1] at hid
        have eq2 := hid.1.symm
        have eq1 : a_how σ1 (nI 2) = a_how (a_minutes k σ) (nI 2) := by rw [← eq2]; exact (a_how_congr hR1.2.2 (a_W_free hR1.2.2 (Or.inl rfl)) (fun i hi => q_upd_ne (by omega))).symm
        exact q_tk (j_38 σ1 c J _ ⟨eq1, eq2, hR1, hF1, ec⟩) rfl (q_ac rfl (q_ac rfl (q_ac rfl (q_ac rfl (q_ac rfl q_an)))))
      · skip
        refine q_iload_n B dX0_passMinutes_25 rfl rfl ?_
        refine q_aload_n B dX0_passMinutes_26 rfl rfl ?_
        refine q_rpV B (s_X0_passMinute hc hR1) kv_yX0_passMinute ki_yX0_passMinute ks_yX0_passMinute km_X0_96 rfl (ci := 0) rfl rfl hc.1 (by decide) rfl (Nat.le_of_ble_eq_true rfl) dX0_passMinutes_27 (fun w J2 hx => ?_)
        obtain ⟨rfl, h1, h2⟩ := hx
        refine q_iadd B dX0_passMinutes_30 ?_
        refine q_istore_n B dX0_passMinutes_31 rfl (Nat.le_of_ble_eq_true rfl) rfl ?_
        refine q_iinc2 (y := nI (i + 1)) B dX0_passMinutes_32 rfl (q_inc1 _) (Nat.le_of_ble_eq_true rfl) rfl ?_
        refine q_goto (tgt := 12) B dX0_passMinutes_35 (by decide) ?_
        exact q_tk (ih (i + 1) (a_minute σ1) (c + (a_how (a_minute σ1) (nI 2) - a_how σ1 (nI 2))) J2 (by omega) ⟨by rw [← e1]; rfl, h1, hF1.tr h2, by rw [ec, a_tele]⟩) rfl (q_ac rfl (q_ac rfl (q_ac rfl (q_ac rfl (q_ac rfl q_an)))))
  exact q_tk (hl_12 k 0 σ 0 I (by omega) ⟨rfl, hR, Fr.rf, (Int32.sub_self _).symm⟩) rfl (q_ac rfl (q_ac rfl (q_ac rfl (q_ac rfl (q_ac rfl q_an)))))
set_option maxRecDepth 100000 in
set_option maxHeartbeats 4000000 in
theorem s_X0_letPass {Sh : q_Sh} {I : q_Mem} {σ : a_A} {b T F : Nat} (hc : cOk Sh b) (hR : Rc T F b I σ) {m : Int32} : q_Rp mX0_letPass 5 [.ref b, .int m] Sh (I) (fun w I2 => w = some (.int (if a_refP σ m = 0 then a_how (a_minutes (a_n m) σ) (nI 2) - a_how σ (nI 2) else a_refP σ m)) ∧ Rc T F b I2 (if a_refP σ m = 0 then a_minutes (a_n m) σ else σ) ∧ Fr b I I2) := by
  refine q_rp_of (by decide) (Nat.le_of_ble_eq_true rfl) fun Γ BM => ?_
  have B := BM.1
  show q_W Γ mX0_letPass 0 0 Sh (I) 0 [(0, .ref b), (1, .int m)] []
  refine q_iload_n B dX0_letPass_0 rfl rfl ?_
  refine q_iconst (v := nI 1) B dX0_letPass_1 rfl ?_
  refine q_icmp_lt (tgt := 11) B dX0_letPass_2 (by decide) (fun c_2 => ?_) (fun c_2 => ?_)
  · skip
    have hrf : a_refP σ m = -2 := if_pos (fun q => absurd q.1 (Int32.not_le.mpr c_2))
    refine q_bipush (v := -2) B dX0_letPass_11 rfl ?_
    exact q_iret BM rfl dX0_letPass_13 ⟨rfl, by rw [hrf]; rfl, by rw [hrf]; exact hR, Fr.rf⟩
  · skip
    have h1 : nI 1 ≤ m := Int32.not_lt.mp c_2
    refine q_iload_n B dX0_letPass_5 rfl rfl ?_
    refine q_bipush (v := nI 99) B dX0_letPass_6 rfl ?_
    refine q_icmp_le (tgt := 14) B dX0_letPass_8 (by decide) (fun c_8 => ?_) (fun c_8 => ?_)
    · skip
      obtain ⟨n, hn, rfl⟩ := nI_of2 (M := nI 99) (nI_toInt (by decide)) (by rw [Int32.not_lt]; exact Int32.le_trans (by decide) h1) c_8
      refine q_aload_n B dX0_letPass_14 rfl rfl ?_
      refine q_getI2 B kC_X0 (k := 0) (by decide) rfl kf_X0_9 hc.1 hR.1.2.1.1 dX0_letPass_15 ?_
      refine q_iload_n B dX0_letPass_18 rfl rfl ?_
      refine q_iadd B dX0_letPass_19 ?_
      refine q_sipush (v := nI 9999) B dX0_letPass_20 rfl ?_
      refine q_icmp_le (tgt := 29) B dX0_letPass_23 (by decide) (fun c_23 => ?_) (fun c_23 => ?_)
      · skip
        have hrf : a_refP σ (nI n) = 0 := by unfold a_refP; rw [if_neg (fun q => q ⟨h1, c_8⟩), if_neg (Int32.not_lt.mpr c_23)]
        refine q_aload_n B dX0_letPass_29 rfl rfl ?_
        refine q_iload_n B dX0_letPass_30 rfl rfl ?_
        refine q_rpV B (s_X0_passMinutes hc hR (k := n) (by omega)) kv_yX0_passMinutes ki_yX0_passMinutes ks_yX0_passMinutes km_X0_89 rfl (ci := 0) rfl rfl hc.1 (by decide) rfl (Nat.le_of_ble_eq_true rfl) dX0_letPass_31 (fun w J hx => ?_)
        obtain ⟨rfl, h2, h3⟩ := hx
        exact q_iret BM rfl dX0_letPass_34 ⟨rfl, by rw [hrf, if_pos rfl, show a_n (nI n) = n from nI_clamp (by omega)], by rw [hrf, if_pos rfl, show a_n (nI n) = n from nI_clamp (by omega)]; exact h2, h3⟩
      · skip
        have hrf : a_refP σ (nI n) = -5 := by unfold a_refP; rw [if_neg (fun q => q ⟨h1, c_8⟩), if_pos (Int32.not_le.mp c_23)]
        refine q_bipush (v := -5) B dX0_letPass_26 rfl ?_
        exact q_iret BM rfl dX0_letPass_28 ⟨rfl, by rw [hrf]; rfl, by rw [hrf]; exact hR, Fr.rf⟩
    · skip
      have hrf : a_refP σ m = -2 := if_pos (fun q => absurd q.2 (Int32.not_le.mpr (Int32.not_le.mp c_8)))
      refine q_bipush (v := -2) B dX0_letPass_11 rfl ?_
      exact q_iret BM rfl dX0_letPass_13 ⟨rfl, by rw [hrf]; rfl, by rw [hrf]; exact hR, Fr.rf⟩
