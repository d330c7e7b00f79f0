theorem a_b0 {P : Prop} {h : Decidable P} : ((@ite Int32 P h 1 0) = 0) → ¬ P := by
  intro q hp
  rw [if_pos hp] at q
  exact absurd q (by decide)
theorem a_b1 {P : Prop} {h : Decidable P} : ¬ ((@ite Int32 P h 1 0) = 0) → P := by
  intro q
  by_cases hp : P
  · exact hp
  · exact absurd (if_neg hp) q
theorem a_goes_1 {σ : a_A} {p : Nat} (h : ¬ a_goes σ p = 0) : a_goes σ p = 1 := by
  unfold a_goes at h ⊢
  rw [if_pos (a_b1 h)]
theorem a_next1_in {σ : a_A} {kinds b : Int32} {i : Nat} (hi : i < 30) (h : b = -6 ∨ ∃ j, j < 30 ∧ b = nI j) : a_next1 σ kinds i b = -6 ∨ ∃ j, j < 30 ∧ a_next1 σ kinds i b = nI j := by
  unfold a_next1
  split
  · exact Or.inr ⟨i, hi, rfl⟩
  · exact h
set_option maxRecDepth 100000 in
set_option maxHeartbeats 4000000 in
theorem s_strips {Sh : q_Sh} {I : q_Mem} {σ : a_A} {o : Nat} (hm : mOk Sh o) {t k : Nat} (ht : t < 30) (hk : k < 6) (hkd : σ (57 + 7 * t) = nI k) : q_Rt mX7_strips 1 [.ref o, .int (nI t)] Sh (q_setA I (o + 1) σ) (some (.int (a_strips σ t).2)) (q_setA I (o + 1) (a_strips σ t).1) := by
  refine q_rt_of (by decide) (Nat.le_of_ble_eq_true rfl) fun Γ BM => ?_
  have B := BM.1
  have hk2 : a_n (σ (57 + 7 * t)) = k := by rw [hkd]; exact nI_clamp (by omega)
  show q_W Γ mX7_strips 0 0 Sh (q_setA I (o + 1) σ) 0 [(0, .ref o), (1, .int (nI t))] []
  refine q_aload_n B dX7_strips_0 rfl rfl ?_
  refine q_iload_n B dX7_strips_1 rfl rfl ?_
  refine q_iconst (v := nI 0) B dX7_strips_2 rfl ?_
  refine q_rtV B (s_of_0 hm ht) kv_yX7_of ki_yX7_of ks_yX7_of km_X7_39 rfl (ci := 7) rfl rfl hm.1 (by decide) rfl (Nat.le_of_ble_eq_true rfl) dX7_strips_3 ?_
  refine q_top hkd ?_
  refine q_rtS B (s_partsOf hk) kv_yX7_partsOf kt_yX7_partsOf km_X7_43 rfl (by decide) rfl (Nat.le_of_ble_eq_true rfl) dX7_strips_6 ?_
  refine q_aload_n B dX7_strips_9 rfl rfl ?_
  refine q_iload_n B dX7_strips_10 rfl rfl ?_
  refine q_iconst (v := nI 1) B dX7_strips_11 rfl ?_
  refine q_rtV B (s_of hm ht (by decide)) kv_yX7_of ki_yX7_of ks_yX7_of km_X7_39 rfl (ci := 7) rfl rfl hm.1 (by decide) rfl (Nat.le_of_ble_eq_true rfl) dX7_strips_12 ?_
  refine q_iconst (v := -1) B dX7_strips_15 rfl ?_
  refine q_ixor B dX7_strips_16 ?_
  refine q_iand B dX7_strips_17 ?_
  refine q_top (y := a_good σ t) (by simp only [a_good, hk2]) ?_
  refine q_istore_n B dX7_strips_18 rfl (Nat.le_of_ble_eq_true rfl) rfl ?_
  refine q_iconst (v := 0) B dX7_strips_19 rfl ?_
  refine q_istore_n B dX7_strips_20 rfl (Nat.le_of_ble_eq_true rfl) rfl ?_
  refine q_iconst (v := nI 0) B dX7_strips_21 rfl ?_
  refine q_istore B dX7_strips_22 (Nat.le_of_ble_eq_true rfl) rfl ?_
  have hl_24 : ∀ (n i : Nat) (σ1 : a_A) (c : Int32), i + n = 8 → q_fold (a_strip1 (a_good σ t)) i (σ, 0) = (σ1, c) → q_W Γ mX7_strips 0 0 Sh (q_setA I (o + 1) σ1) 24 [(0, .ref o), (1, .int (nI t)), (2, .int (a_good σ t)), (3, .int c), (4, .int (nI i))] [] := by
    intro n
    induction n with
    | zero =>
      intro i σ1 c hin hinv
      have h8 : i = 8 := by omega
      subst h8
      have hr : a_strips σ t = (upd σ1 (57 + 7 * t + 4) (nI 3), c) := by simp only [a_strips, hinv]
      refine q_iload B dX7_strips_24 rfl ?_
      refine q_bipush (v := nI 8) B dX7_strips_26 rfl ?_
      refine q_icmp_ge (tgt := 117) B dX7_strips_28 (by decide) (fun _ => ?_) (fun h => absurd (q_le (Nat.le_refl 8) (by decide)) h)
      refine q_aload_n B dX7_strips_117 rfl rfl ?_
      refine q_iload_n B dX7_strips_118 rfl rfl ?_
      refine q_iconst (v := nI 4) B dX7_strips_119 rfl ?_
      refine q_iconst (v := nI 3) B dX7_strips_120 rfl ?_
      refine q_rtV B (s_lay hm ht (by decide)) kv_yX7_lay ki_yX7_lay ks_yX7_lay km_X7_47 rfl (ci := 7) rfl rfl hm.1 (by decide) rfl (Nat.le_of_ble_eq_true rfl) dX7_strips_121 ?_
      refine q_iload_n B dX7_strips_124 rfl rfl ?_
      exact q_iret BM rfl dX7_strips_125 ⟨by rw [hr], rfl, by rw [hr]⟩
    | succ n ih =>
      intro i σ1 c hin hinv
      have hiN : i < 8 := by omega
      refine q_iload B dX7_strips_24 rfl ?_
      refine q_bipush (v := nI 8) B dX7_strips_26 rfl ?_
      refine q_icmp_ge (tgt := 117) B dX7_strips_28 (by decide) (fun h => absurd h (q_nle hiN (by decide))) (fun _ => ?_)
      refine q_iload_n B dX7_strips_31 rfl rfl ?_
      refine q_iload B dX7_strips_32 rfl ?_
      refine q_ishr B dX7_strips_34 ?_
      refine q_iconst (v := nI 1) B dX7_strips_35 rfl ?_
      refine q_iand B dX7_strips_36 ?_
      refine q_iconst (v := nI 1) B dX7_strips_37 rfl ?_
      refine q_icmp_ne (tgt := 111) B dX7_strips_38 (by decide) (fun c_38 => ?_) (fun c_38 => ?_)
      · skip
        refine q_iinc2 (y := nI (i + 1)) B dX7_strips_111 rfl (q_inc1 _) (Nat.le_of_ble_eq_true rfl) rfl ?_
        refine q_goto (tgt := 24) B dX7_strips_114 (by decide) ?_
        exact q_tk (ih (i + 1) _ _ (by omega) (by show a_strip1 _ i (q_fold _ i _) = _; rw [hinv]; first | exact if_pos c_38 | exact if_neg c_38)) rfl (q_ac rfl (q_ac rfl (q_ac rfl (q_ac rfl (q_ac rfl q_an)))))
      · skip
        refine q_join 60 (a_goes σ1 i) ?_ (fun j_41 => ?_)
        · skip
          refine q_istore B dX7_strips_60 (Nat.le_of_ble_eq_true rfl) rfl ?_
          refine q_aload_n B dX7_strips_62 rfl rfl ?_
          refine q_getR B kC_X7 (k := 1) (by decide) rfl kf_X7_7 hm.1 (mR_s hm) dX7_strips_63 ?_
          refine q_bipush (v := nI 19) B dX7_strips_66 rfl ?_
          refine q_iload B dX7_strips_68 rfl ?_
          refine q_iadd B dX7_strips_70 ?_
          refine q_dup2 B dX7_strips_71 rfl rfl ?_
          refine q_ialdS (n := 19 + i) B (mA_s hm) (by simp only [nI_add, q_nI_mul]) (by omega) (by decide) dX7_strips_72 ?_
          refine q_iconst (v := 1) B dX7_strips_73 rfl ?_
          refine q_iadd B dX7_strips_74 ?_
          refine q_iastS (n := 19 + i) B (mA_s hm) (by simp only [nI_add, q_nI_mul]) (by omega) (by decide) dX7_strips_75 ?_
          refine q_aload_n B dX7_strips_76 rfl rfl ?_
          refine q_getR B kC_X7 (k := 1) (by decide) rfl kf_X7_7 hm.1 (mR_s hm) dX7_strips_77 ?_
          refine q_iconst (v := nI 3) B dX7_strips_80 rfl ?_
          refine q_iload B dX7_strips_81 rfl ?_
          refine q_iadd B dX7_strips_83 ?_
          refine q_dup2 B dX7_strips_84 rfl rfl ?_
          refine q_ialdS2 (n := 3 + i) B (mA_s hm) (by simp only [nI_add, q_nI_mul]) (by omega) (by decide) (q_upd_ne (by omega)) dX7_strips_85 ?_
          refine q_join 96 (a_goes σ1 i) ?_ (fun j_86 => ?_)
          · skip
            refine q_iadd B dX7_strips_96 ?_
            refine q_iastS (n := 3 + i) B (mA_s hm) (by simp only [nI_add, q_nI_mul]) (by omega) (by decide) dX7_strips_97 ?_
            refine q_iload_n B dX7_strips_98 rfl rfl ?_
            refine q_join 109 (a_goes σ1 i) ?_ (fun j_99 => ?_)
            · skip
              refine q_iadd B dX7_strips_109 ?_
              refine q_istore_n B dX7_strips_110 rfl (Nat.le_of_ble_eq_true rfl) rfl ?_
              refine q_iinc2 (y := nI (i + 1)) B dX7_strips_111 rfl (q_inc1 _) (Nat.le_of_ble_eq_true rfl) rfl ?_
              refine q_goto (tgt := 24) B dX7_strips_114 (by decide) ?_
              exact q_tk (ih (i + 1) _ _ (by omega) (by show a_strip1 _ i (q_fold _ i _) = _; rw [hinv]; first | exact if_pos c_38 | exact if_neg c_38)) rfl (q_ac rfl (q_ac rfl (q_ac rfl (q_ac rfl (q_ac rfl q_an)))))
            · skip
              refine q_iload B dX7_strips_99 rfl ?_
              refine q_if_eq (tgt := 108) B dX7_strips_101 (by decide) (fun c_101 => ?_) (fun c_101 => ?_)
              · skip
                refine q_iconst (v := 0) B dX7_strips_108 rfl ?_
                exact q_top (by first | (rw [c_101]; done) | (rw [a_goes_1 c_101]; done)) j_99
              · skip
                refine q_iconst (v := 1) B dX7_strips_104 rfl ?_
                refine q_goto (tgt := 109) B dX7_strips_105 (by decide) ?_
                exact q_top (by first | (rw [c_101]; done) | (rw [a_goes_1 c_101]; done)) j_99
          · skip
            refine q_iload B dX7_strips_86 rfl ?_
            refine q_if_eq (tgt := 95) B dX7_strips_88 (by decide) (fun c_88 => ?_) (fun c_88 => ?_)
            · skip
              refine q_iconst (v := 0) B dX7_strips_95 rfl ?_
              exact q_top (by first | (rw [c_88]; done) | (rw [a_goes_1 c_88]; done)) j_86
            · skip
              refine q_iconst (v := 1) B dX7_strips_91 rfl ?_
              refine q_goto (tgt := 96) B dX7_strips_92 (by decide) ?_
              exact q_top (by first | (rw [c_88]; done) | (rw [a_goes_1 c_88]; done)) j_86
        · skip
          refine q_aload_n B dX7_strips_41 rfl rfl ?_
          refine q_getR B kC_X7 (k := 1) (by decide) rfl kf_X7_7 hm.1 (mR_s hm) dX7_strips_42 ?_
          refine q_iconst (v := nI 3) B dX7_strips_45 rfl ?_
          refine q_iload B dX7_strips_46 rfl ?_
          refine q_iadd B dX7_strips_48 ?_
          refine q_ialdS (n := 3 + i) B (mA_s hm) (by simp only [nI_add, q_nI_mul]) (by omega) (by decide) dX7_strips_49 ?_
          refine q_bipush (v := nI 99) B dX7_strips_50 rfl ?_
          refine q_icmp_ge (tgt := 59) B dX7_strips_52 (by decide) (fun c_52 => ?_) (fun c_52 => ?_)
          · skip
            refine q_iconst (v := 0) B dX7_strips_59 rfl ?_
            exact q_top (by first | (rw [a_goes, if_neg (Int32.not_lt.mpr c_52)]; done) | (rw [a_goes, if_pos (Int32.not_le.mp c_52)]; done)) j_41
          · skip
            refine q_iconst (v := 1) B dX7_strips_55 rfl ?_
            refine q_goto (tgt := 60) B dX7_strips_56 (by decide) ?_
            exact q_top (by first | (rw [a_goes, if_neg (Int32.not_lt.mpr c_52)]; done) | (rw [a_goes, if_pos (Int32.not_le.mp c_52)]; done)) j_41
  exact q_tk (hl_24 8 0 σ 0 (by omega) rfl) rfl (q_ac rfl (q_ac rfl (q_ac rfl (q_ac rfl (q_ac rfl q_an)))))
set_option maxRecDepth 100000 in
set_option maxHeartbeats 4000000 in
theorem s_nextFor {Sh : q_Sh} {I : q_Mem} {σ : a_A} {o : Nat} (hm : mOk Sh o) {kinds : Int32} (hT : σ 1 = nI (a_T σ)) (hT2 : a_T σ ≤ 30) : q_Rt mX7_nextFor 1 [.ref o, .int kinds] Sh (q_setA I (o + 1) σ) (some (.int (a_next σ kinds))) (q_setA I (o + 1) σ) := by
  refine q_rt_of (by decide) (Nat.le_of_ble_eq_true rfl) fun Γ BM => ?_
  have B := BM.1
  show q_W Γ mX7_nextFor 0 0 Sh (q_setA I (o + 1) σ) 0 [(0, .ref o), (1, .int kinds)] []
  refine q_bipush (v := -6) B dX7_nextFor_0 rfl ?_
  refine q_istore_n B dX7_nextFor_2 rfl (Nat.le_of_ble_eq_true rfl) rfl ?_
  refine q_iconst (v := nI 0) B dX7_nextFor_3 rfl ?_
  refine q_istore_n B dX7_nextFor_4 rfl (Nat.le_of_ble_eq_true rfl) rfl ?_
  have hl_5 : ∀ (n i : Nat) (b : Int32), i + n = a_T σ → (q_fold (a_next1 σ kinds) i (-6) = b ∧ (b = -6 ∨ ∃ j, j < 30 ∧ b = nI j)) → q_W Γ mX7_nextFor 0 0 Sh (q_setA I (o + 1) σ) 5 [(0, .ref o), (1, .int kinds), (2, .int b), (3, .int (nI i))] [] := by
    intro n
    induction n with
    | zero =>
      intro i b hin hinv
      have hi : i = a_T σ := by omega
      subst hi
      refine q_iload_n B dX7_nextFor_5 rfl rfl ?_
      refine q_aload_n B dX7_nextFor_6 rfl rfl ?_
      refine q_getR B kC_X7 (k := 1) (by decide) rfl kf_X7_7 hm.1 (mR_s hm) dX7_nextFor_7 ?_
      refine q_iconst (v := nI 1) B dX7_nextFor_10 rfl ?_
      refine q_ialdS2 (n := 1) B (mA_s hm) rfl (by omega) (by decide) hT dX7_nextFor_11 ?_
      refine q_icmp_ge (tgt := 83) B dX7_nextFor_12 (by decide) (fun _ => ?_) (fun h => absurd (q_le (Nat.le_refl _) (by omega)) h)
      refine q_iload_n B dX7_nextFor_83 rfl rfl ?_
      exact q_iret BM rfl dX7_nextFor_84 ⟨by rw [← hinv.1]; rfl, rfl, rfl⟩
    | succ n ih =>
      intro i b hin hinv
      have hiN : i < a_T σ := by omega
      refine q_iload_n B dX7_nextFor_5 rfl rfl ?_
      refine q_aload_n B dX7_nextFor_6 rfl rfl ?_
      refine q_getR B kC_X7 (k := 1) (by decide) rfl kf_X7_7 hm.1 (mR_s hm) dX7_nextFor_7 ?_
      refine q_iconst (v := nI 1) B dX7_nextFor_10 rfl ?_
      refine q_ialdS2 (n := 1) B (mA_s hm) rfl (by omega) (by decide) hT dX7_nextFor_11 ?_
      refine q_icmp_ge (tgt := 83) B dX7_nextFor_12 (by decide) (fun h => absurd h (q_nle hiN (by omega))) (fun _ => ?_)
      refine q_join 43 (if σ (57 + 7 * i + 4) = 0 ∧ (kinds >>> (σ (57 + 7 * i) &&& 31)) &&& nI 1 = nI 1 then 1 else 0) ?_ (fun j_15 => ?_)
      · skip
        refine q_istore B dX7_nextFor_43 (Nat.le_of_ble_eq_true rfl) rfl ?_
        refine q_join 76 (a_next1 σ kinds i b) ?_ (fun j_45 => ?_)
        · skip
          refine q_istore_n B dX7_nextFor_76 rfl (Nat.le_of_ble_eq_true rfl) rfl ?_
          refine q_iinc2 (y := nI (i + 1)) B dX7_nextFor_77 rfl (q_inc1 _) (Nat.le_of_ble_eq_true rfl) rfl ?_
          refine q_goto (tgt := 5) B dX7_nextFor_80 (by decide) ?_
          exact q_tk (ih (i + 1) _ (by omega) ⟨by show a_next1 σ kinds i (q_fold _ i _) = _; rw [hinv.1], a_next1_in (by omega) hinv.2⟩) rfl (q_ac rfl (q_ac rfl (q_ac rfl (q_ac rfl q_an))))
        · skip
          refine q_iload B dX7_nextFor_45 rfl ?_
          refine q_if_eq (tgt := 75) B dX7_nextFor_47 (by decide) (fun c_47 => ?_) (fun c_47 => ?_)
          · skip
            have nP := a_b0 c_47
            refine q_iload_n B dX7_nextFor_75 rfl rfl ?_
            exact q_top (by first | (rw [a_next1, if_neg (fun h => nP h.1)]; done) | (rw [a_next1, if_pos ⟨hP, Or.inl c_53⟩]; done) | (rw [a_next1, if_pos ⟨hP, Or.inr (by rw [haj]; exact Int32.not_le.mp c_68)⟩]; done) | (rw [a_next1, if_neg (fun h => h.2.elim c_53 (fun q => absurd (haj ▸ q) (Int32.not_lt.mpr c_68)))]; done)) j_45
          · skip
            have hP := a_b1 c_47
            refine q_iload_n B dX7_nextFor_50 rfl rfl ?_
            refine q_bipush (v := -6) B dX7_nextFor_51 rfl ?_
            refine q_icmp_eq (tgt := 71) B dX7_nextFor_53 (by decide) (fun c_53 => ?_) (fun c_53 => ?_)
            · skip
              refine q_iload_n B dX7_nextFor_71 rfl rfl ?_
              refine q_goto (tgt := 76) B dX7_nextFor_72 (by decide) ?_
              exact q_top (by first | (rw [a_next1, if_neg (fun h => nP h.1)]; done) | (rw [a_next1, if_pos ⟨hP, Or.inl c_53⟩]; done) | (rw [a_next1, if_pos ⟨hP, Or.inr (by rw [haj]; exact Int32.not_le.mp c_68)⟩]; done) | (rw [a_next1, if_neg (fun h => h.2.elim c_53 (fun q => absurd (haj ▸ q) (Int32.not_lt.mpr c_68)))]; done)) j_45
            · skip
              obtain ⟨j, hj, hbj⟩ : ∃ j, j < 30 ∧ b = nI j := hinv.2.resolve_left c_53
              have haj : a_n b = j := by rw [hbj]; exact nI_clamp (by omega)
              refine q_aload_n B dX7_nextFor_56 rfl rfl ?_
              refine q_iload_n B dX7_nextFor_57 rfl rfl ?_
              refine q_iconst (v := nI 2) B dX7_nextFor_58 rfl ?_
              refine q_rtV B (s_of hm (by omega) (by decide)) kv_yX7_of ki_yX7_of ks_yX7_of km_X7_39 rfl (ci := 7) rfl rfl hm.1 (by decide) rfl (Nat.le_of_ble_eq_true rfl) dX7_nextFor_59 ?_
              refine q_aload_n B dX7_nextFor_62 rfl rfl ?_
              refine q_iload_n B dX7_nextFor_63 rfl rfl ?_
              refine q_top hbj ?_
              refine q_iconst (v := nI 2) B dX7_nextFor_64 rfl ?_
              refine q_rtV B (s_of hm hj (by decide)) kv_yX7_of ki_yX7_of ks_yX7_of km_X7_39 rfl (ci := 7) rfl rfl hm.1 (by decide) rfl (Nat.le_of_ble_eq_true rfl) dX7_nextFor_65 ?_
              refine q_icmp_ge (tgt := 75) B dX7_nextFor_68 (by decide) (fun c_68 => ?_) (fun c_68 => ?_)
              · skip
                refine q_iload_n B dX7_nextFor_75 rfl rfl ?_
                exact q_top (by first | (rw [a_next1, if_neg (fun h => nP h.1)]; done) | (rw [a_next1, if_pos ⟨hP, Or.inl c_53⟩]; done) | (rw [a_next1, if_pos ⟨hP, Or.inr (by rw [haj]; exact Int32.not_le.mp c_68)⟩]; done) | (rw [a_next1, if_neg (fun h => h.2.elim c_53 (fun q => absurd (haj ▸ q) (Int32.not_lt.mpr c_68)))]; done)) j_45
              · skip
                refine q_iload_n B dX7_nextFor_71 rfl rfl ?_
                refine q_goto (tgt := 76) B dX7_nextFor_72 (by decide) ?_
                exact q_top (by first | (rw [a_next1, if_neg (fun h => nP h.1)]; done) | (rw [a_next1, if_pos ⟨hP, Or.inl c_53⟩]; done) | (rw [a_next1, if_pos ⟨hP, Or.inr (by rw [haj]; exact Int32.not_le.mp c_68)⟩]; done) | (rw [a_next1, if_neg (fun h => h.2.elim c_53 (fun q => absurd (haj ▸ q) (Int32.not_lt.mpr c_68)))]; done)) j_45
      · skip
        refine q_aload_n B dX7_nextFor_15 rfl rfl ?_
        refine q_iload_n B dX7_nextFor_16 rfl rfl ?_
        refine q_iconst (v := nI 4) B dX7_nextFor_17 rfl ?_
        refine q_rtV B (s_of hm (by omega) (by decide)) kv_yX7_of ki_yX7_of ks_yX7_of km_X7_39 rfl (ci := 7) rfl rfl hm.1 (by decide) rfl (Nat.le_of_ble_eq_true rfl) dX7_nextFor_18 ?_
        refine q_if_ne (tgt := 42) B dX7_nextFor_21 (by decide) (fun c_21 => ?_) (fun c_21 => ?_)
        · skip
          refine q_iconst (v := 0) B dX7_nextFor_42 rfl ?_
          exact q_top (by first | (rw [if_pos ⟨c_21, c_35⟩]; done) | (rw [if_neg (fun h => c_21 h.1)]; done) | (rw [if_neg (fun h => c_35 h.2)]; done)) j_15
        · skip
          refine q_iload_n B dX7_nextFor_24 rfl rfl ?_
          refine q_aload_n B dX7_nextFor_25 rfl rfl ?_
          refine q_iload_n B dX7_nextFor_26 rfl rfl ?_
          refine q_iconst (v := nI 0) B dX7_nextFor_27 rfl ?_
          refine q_rtV B (s_of_0 hm (by omega)) kv_yX7_of ki_yX7_of ks_yX7_of km_X7_39 rfl (ci := 7) rfl rfl hm.1 (by decide) rfl (Nat.le_of_ble_eq_true rfl) dX7_nextFor_28 ?_
          refine q_ishr B dX7_nextFor_31 ?_
          refine q_iconst (v := nI 1) B dX7_nextFor_32 rfl ?_
          refine q_iand B dX7_nextFor_33 ?_
          refine q_iconst (v := nI 1) B dX7_nextFor_34 rfl ?_
          refine q_icmp_ne (tgt := 42) B dX7_nextFor_35 (by decide) (fun c_35 => ?_) (fun c_35 => ?_)
          · skip
            refine q_iconst (v := 0) B dX7_nextFor_42 rfl ?_
            exact q_top (by first | (rw [if_pos ⟨c_21, c_35⟩]; done) | (rw [if_neg (fun h => c_21 h.1)]; done) | (rw [if_neg (fun h => c_35 h.2)]; done)) j_15
          · skip
            refine q_iconst (v := 1) B dX7_nextFor_38 rfl ?_
            refine q_goto (tgt := 43) B dX7_nextFor_39 (by decide) ?_
            exact q_top (by first | (rw [if_pos ⟨c_21, c_35⟩]; done) | (rw [if_neg (fun h => c_21 h.1)]; done) | (rw [if_neg (fun h => c_35 h.2)]; done)) j_15
  exact q_tk (hl_5 (a_T σ) 0 (-6) (by omega) ⟨rfl, Or.inl rfl⟩) rfl (q_ac rfl (q_ac rfl (q_ac rfl (q_ac rfl q_an))))
set_option maxRecDepth 100000 in
set_option maxHeartbeats 4000000 in
theorem s_fixerOf {Sh : q_Sh} {I : q_Mem} {σ : a_A} {o : Nat} (hm : mOk Sh o) {x : Int32} (hF : σ 2 = nI (a_F σ)) (hF2 : a_F σ ≤ 5) : q_Rt mX7_fixerOf 1 [.ref o, .int x] Sh (q_setA I (o + 1) σ) (some (.int (a_fixerOf σ x))) (q_setA I (o + 1) σ) := by
  refine q_rt_of (by decide) (Nat.le_of_ble_eq_true rfl) fun Γ BM => ?_
  have B := BM.1
  show q_W Γ mX7_fixerOf 0 0 Sh (q_setA I (o + 1) σ) 0 [(0, .ref o), (1, .int x)] []
  refine q_iconst (v := nI 0) B dX7_fixerOf_0 rfl ?_
  refine q_istore_n B dX7_fixerOf_1 rfl (Nat.le_of_ble_eq_true rfl) rfl ?_
  have hl_2 : ∀ (n i : Nat) , i + n = a_F σ → a_first (fun f => decide (σ (27 + 6 * f + 2) = x + 1)) n i = a_fixerOf σ x → q_W Γ mX7_fixerOf 0 0 Sh (q_setA I (o + 1) σ) 2 [(0, .ref o), (1, .int x), (2, .int (nI i))] [] := by
    intro n
    induction n with
    | zero =>
      intro i  hin hinv
      have hi : i = a_F σ := by omega
      subst hi
      refine q_iload_n B dX7_fixerOf_2 rfl rfl ?_
      refine q_aload_n B dX7_fixerOf_3 rfl rfl ?_
      refine q_getR B kC_X7 (k := 1) (by decide) rfl kf_X7_7 hm.1 (mR_s hm) dX7_fixerOf_4 ?_
      refine q_iconst (v := nI 2) B dX7_fixerOf_7 rfl ?_
      refine q_ialdS2 (n := 2) B (mA_s hm) rfl (by omega) (by decide) hF dX7_fixerOf_8 ?_
      refine q_icmp_ge (tgt := 32) B dX7_fixerOf_9 (by decide) (fun _ => ?_) (fun h => absurd (q_le (Nat.le_refl _) (by omega)) h)
      refine q_bipush (v := -6) B dX7_fixerOf_32 rfl ?_
      exact q_iret BM rfl dX7_fixerOf_34 ⟨by rw [← hinv]; rfl, rfl, rfl⟩
    | succ n ih =>
      intro i  hin hinv
      have hiN : i < a_F σ := by omega
      refine q_iload_n B dX7_fixerOf_2 rfl rfl ?_
      refine q_aload_n B dX7_fixerOf_3 rfl rfl ?_
      refine q_getR B kC_X7 (k := 1) (by decide) rfl kf_X7_7 hm.1 (mR_s hm) dX7_fixerOf_4 ?_
      refine q_iconst (v := nI 2) B dX7_fixerOf_7 rfl ?_
      refine q_ialdS2 (n := 2) B (mA_s hm) rfl (by omega) (by decide) hF dX7_fixerOf_8 ?_
      refine q_icmp_ge (tgt := 32) B dX7_fixerOf_9 (by decide) (fun h => absurd h (q_nle hiN (by omega))) (fun _ => ?_)
      refine q_aload_n B dX7_fixerOf_12 rfl rfl ?_
      refine q_iload_n B dX7_fixerOf_13 rfl rfl ?_
      refine q_iconst (v := nI 2) B dX7_fixerOf_14 rfl ?_
      refine q_rtV B (s_fixer0 hm (by omega) (by decide)) kv_yX7_fixer0 ki_yX7_fixer0 ks_yX7_fixer0 km_X7_51 rfl (ci := 7) rfl rfl hm.1 (by decide) rfl (Nat.le_of_ble_eq_true rfl) dX7_fixerOf_15 ?_
      refine q_iload_n B dX7_fixerOf_18 rfl rfl ?_
      refine q_iconst (v := 1) B dX7_fixerOf_19 rfl ?_
      refine q_iadd B dX7_fixerOf_20 ?_
      refine q_icmp_ne (tgt := 26) B dX7_fixerOf_21 (by decide) (fun c_21 => ?_) (fun c_21 => ?_)
      · skip
        refine q_iinc2 (y := nI (i + 1)) B dX7_fixerOf_26 rfl (q_inc1 _) (Nat.le_of_ble_eq_true rfl) rfl ?_
        refine q_goto (tgt := 2) B dX7_fixerOf_29 (by decide) ?_
        exact q_tk (ih (i + 1) (by omega) (by rw [← hinv]; simp [a_first, c_21])) rfl (q_ac rfl (q_ac rfl (q_ac rfl q_an)))
      · skip
        refine q_iload_n B dX7_fixerOf_24 rfl rfl ?_
        exact q_iret BM rfl dX7_fixerOf_25 ⟨by rw [← hinv]; simp [a_first, c_21], rfl, rfl⟩
  exact q_tk (hl_2 (a_F σ) 0  (by omega) rfl) rfl (q_ac rfl (q_ac rfl (q_ac rfl q_an)))
set_option maxRecDepth 100000 in
set_option maxHeartbeats 4000000 in
theorem s_withHow {Sh : q_Sh} {I : q_Mem} {σ : a_A} {o : Nat} (hm : mOk Sh o) {h : Int32} (hT : σ 1 = nI (a_T σ)) (hT2 : a_T σ ≤ 30) : q_Rt mX7_withHow 1 [.ref o, .int h] Sh (q_setA I (o + 1) σ) (some (.int (a_how σ h))) (q_setA I (o + 1) σ) := by
  refine q_rt_of (by decide) (Nat.le_of_ble_eq_true rfl) fun Γ BM => ?_
  have B := BM.1
  show q_W Γ mX7_withHow 0 0 Sh (q_setA I (o + 1) σ) 0 [(0, .ref o), (1, .int h)] []
  refine q_iconst (v := 0) B dX7_withHow_0 rfl ?_
  refine q_istore_n B dX7_withHow_1 rfl (Nat.le_of_ble_eq_true rfl) rfl ?_
  refine q_iconst (v := nI 0) B dX7_withHow_2 rfl ?_
  refine q_istore_n B dX7_withHow_3 rfl (Nat.le_of_ble_eq_true rfl) rfl ?_
  have hl_4 : ∀ (n i : Nat) (c : Int32), i + n = a_T σ → q_fold (fun i (n : Int32) => n + (if σ (57 + 7 * i + 4) = h then 1 else 0)) i 0 = c → q_W Γ mX7_withHow 0 0 Sh (q_setA I (o + 1) σ) 4 [(0, .ref o), (1, .int h), (2, .int c), (3, .int (nI i))] [] := by
    intro n
    induction n with
    | zero =>
      intro i c hin hinv
      have hi : i = a_T σ := by omega
      subst hi
      refine q_iload_n B dX7_withHow_4 rfl rfl ?_
      refine q_aload_n B dX7_withHow_5 rfl rfl ?_
      refine q_getR B kC_X7 (k := 1) (by decide) rfl kf_X7_7 hm.1 (mR_s hm) dX7_withHow_6 ?_
      refine q_iconst (v := nI 1) B dX7_withHow_9 rfl ?_
      refine q_ialdS2 (n := 1) B (mA_s hm) rfl (by omega) (by decide) hT dX7_withHow_10 ?_
      refine q_icmp_ge (tgt := 38) B dX7_withHow_11 (by decide) (fun _ => ?_) (fun h => absurd (q_le (Nat.le_refl _) (by omega)) h)
      refine q_iload_n B dX7_withHow_38 rfl rfl ?_
      exact q_iret BM rfl dX7_withHow_39 ⟨by rw [← hinv]; rfl, rfl, rfl⟩
    | succ n ih =>
      intro i c hin hinv
      have hiN : i < a_T σ := by omega
      refine q_iload_n B dX7_withHow_4 rfl rfl ?_
      refine q_aload_n B dX7_withHow_5 rfl rfl ?_
      refine q_getR B kC_X7 (k := 1) (by decide) rfl kf_X7_7 hm.1 (mR_s hm) dX7_withHow_6 ?_
      refine q_iconst (v := nI 1) B dX7_withHow_9 rfl ?_
      refine q_ialdS2 (n := 1) B (mA_s hm) rfl (by omega) (by decide) hT dX7_withHow_10 ?_
      refine q_icmp_ge (tgt := 38) B dX7_withHow_11 (by decide) (fun h => absurd h (q_nle hiN (by omega))) (fun _ => ?_)
      refine q_iload_n B dX7_withHow_14 rfl rfl ?_
      refine q_join 30 (if σ (57 + 7 * i + 4) = h then 1 else 0) ?_ (fun j_15 => ?_)
      · skip
        refine q_iadd B dX7_withHow_30 ?_
        refine q_istore_n B dX7_withHow_31 rfl (Nat.le_of_ble_eq_true rfl) rfl ?_
        refine q_iinc2 (y := nI (i + 1)) B dX7_withHow_32 rfl (q_inc1 _) (Nat.le_of_ble_eq_true rfl) rfl ?_
        refine q_goto (tgt := 4) B dX7_withHow_35 (by decide) ?_
        exact q_tk (ih (i + 1) _ (by omega) (by rw [← hinv]; rfl)) rfl (q_ac rfl (q_ac rfl (q_ac rfl (q_ac rfl q_an))))
      · skip
        refine q_aload_n B dX7_withHow_15 rfl rfl ?_
        refine q_iload_n B dX7_withHow_16 rfl rfl ?_
        refine q_iconst (v := nI 4) B dX7_withHow_17 rfl ?_
        refine q_rtV B (s_of hm (by omega) (by decide)) kv_yX7_of ki_yX7_of ks_yX7_of km_X7_39 rfl (ci := 7) rfl rfl hm.1 (by decide) rfl (Nat.le_of_ble_eq_true rfl) dX7_withHow_18 ?_
        refine q_iload_n B dX7_withHow_21 rfl rfl ?_
        refine q_icmp_ne (tgt := 29) B dX7_withHow_22 (by decide) (fun c_22 => ?_) (fun c_22 => ?_)
        · skip
          refine q_iconst (v := 0) B dX7_withHow_29 rfl ?_
          exact q_top (by first | (rw [if_pos c_22]; done) | (rw [if_neg c_22]; done)) j_15
        · skip
          refine q_iconst (v := 1) B dX7_withHow_25 rfl ?_
          refine q_goto (tgt := 30) B dX7_withHow_26 (by decide) ?_
          exact q_top (by first | (rw [if_pos c_22]; done) | (rw [if_neg c_22]; done)) j_15
  exact q_tk (hl_4 (a_T σ) 0 0 (by omega) rfl) rfl (q_ac rfl (q_ac rfl (q_ac rfl (q_ac rfl q_an))))
set_option maxRecDepth 100000 in
set_option maxHeartbeats 4000000 in
theorem s_givesUp {Sh : q_Sh} {I : q_Mem} {σ : a_A} {o : Nat} (hm : mOk Sh o) {f t k : Nat} (hf : f < 5) (ht : t < 30) (hk : k < 6) (hkd : σ (57 + 7 * t) = nI k) : q_Rt mX7_givesUp 2 [.ref o, .int (nI f), .int (nI t)] Sh (q_setA I (o + 1) σ) (none) (q_setA I (o + 1) (a_givesUp σ f t)) := by
  refine q_rt_of (by decide) (Nat.le_of_ble_eq_true rfl) fun Γ BM => ?_
  have B := BM.1
  show q_W Γ mX7_givesUp 0 0 Sh (q_setA I (o + 1) σ) 0 [(0, .ref o), (1, .int (nI f)), (2, .int (nI t))] []
  refine q_aload_n B dX7_givesUp_0 rfl rfl ?_
  refine q_iload_n B dX7_givesUp_1 rfl rfl ?_
  refine q_rtV B (s_strips hm ht hk hkd) kv_yX7_strips ki_yX7_strips ks_yX7_strips km_X7_54 rfl (ci := 7) rfl rfl hm.1 (by decide) rfl (Nat.le_of_ble_eq_true rfl) dX7_givesUp_2 ?_
  refine q_pop B dX7_givesUp_5 rfl ?_
  refine q_aload_n B dX7_givesUp_6 rfl rfl ?_
  refine q_iload_n B dX7_givesUp_7 rfl rfl ?_
  refine q_iconst (v := nI 4) B dX7_givesUp_8 rfl ?_
  refine q_rtV B (s_more hm hf (by decide)) kv_yX7_more ki_yX7_more ks_yX7_more km_X7_57 rfl (ci := 7) rfl rfl hm.1 (by decide) rfl (Nat.le_of_ble_eq_true rfl) dX7_givesUp_9 ?_
  refine q_aload_n B dX7_givesUp_12 rfl rfl ?_
  refine q_iload_n B dX7_givesUp_13 rfl rfl ?_
  refine q_rtV B (s_frees hm hf) kv_yX7_frees ki_yX7_frees ks_yX7_frees km_X7_61 rfl (ci := 7) rfl rfl hm.1 (by decide) rfl (Nat.le_of_ble_eq_true rfl) dX7_givesUp_14 ?_
  exact q_vret BM rfl dX7_givesUp_17 ⟨rfl, rfl, rfl⟩
set_option maxRecDepth 100000 in
set_option maxHeartbeats 4000000 in
theorem s_exchanges {Sh : q_Sh} {I : q_Mem} {σ : a_A} {o : Nat} (hm : mOk Sh o) {t m : Nat} (ht : t < 30) (hm0 : m < 256) (hmz : m ≠ 0) (hb : σ (57 + 7 * t + 1) = nI m) : q_Rt mX7_exchanges 1 [.ref o, .int (nI t)] Sh (q_setA I (o + 1) σ) (some (.int (a_exch σ t).2)) (q_setA I (o + 1) (a_exch σ t).1) := by
  refine q_rt_of (by decide) (Nat.le_of_ble_eq_true rfl) fun Γ BM => ?_
  have B := BM.1
  have hb2 : a_n (σ (57 + 7 * t + 1)) = m := by rw [hb]; exact nI_clamp (by omega)
  have hp8 := (a_low_ok m hm0 hmz).1
  generalize hp : a_low m = p at hp8
  show q_W Γ mX7_exchanges 0 0 Sh (q_setA I (o + 1) σ) 0 [(0, .ref o), (1, .int (nI t))] []
  refine q_aload_n B dX7_exchanges_0 rfl rfl ?_
  refine q_iload_n B dX7_exchanges_1 rfl rfl ?_
  refine q_iconst (v := nI 1) B dX7_exchanges_2 rfl ?_
  refine q_rtV B (s_of hm ht (by decide)) kv_yX7_of ki_yX7_of ks_yX7_of km_X7_39 rfl (ci := 7) rfl rfl hm.1 (by decide) rfl (Nat.le_of_ble_eq_true rfl) dX7_exchanges_3 ?_
  refine q_top hb ?_
  refine q_rtS B (s_lowest hm0 hmz) kv_yX7_lowest kt_yX7_lowest km_X7_65 rfl (by decide) rfl (Nat.le_of_ble_eq_true rfl) dX7_exchanges_6 ?_
  rw [hp]
  refine q_istore_n B dX7_exchanges_9 rfl (Nat.le_of_ble_eq_true rfl) rfl ?_
  refine q_aload_n B dX7_exchanges_10 rfl rfl ?_
  refine q_getR B kC_X7 (k := 1) (by decide) rfl kf_X7_7 hm.1 (mR_s hm) dX7_exchanges_11 ?_
  refine q_iconst (v := nI 3) B dX7_exchanges_14 rfl ?_
  refine q_iload_n B dX7_exchanges_15 rfl rfl ?_
  refine q_iadd B dX7_exchanges_16 ?_
  refine q_ialdS (n := 3 + p) B (mA_s hm) (by simp only [nI_add, q_nI_mul]) (by omega) (by decide) dX7_exchanges_17 ?_
  refine q_if_ne (tgt := 23) B dX7_exchanges_18 (by decide) (fun c_18 => ?_) (fun c_18 => ?_)
  · skip
    refine q_aload_n B dX7_exchanges_23 rfl rfl ?_
    refine q_getR B kC_X7 (k := 1) (by decide) rfl kf_X7_7 hm.1 (mR_s hm) dX7_exchanges_24 ?_
    refine q_iconst (v := nI 3) B dX7_exchanges_27 rfl ?_
    refine q_iload_n B dX7_exchanges_28 rfl rfl ?_
    refine q_iadd B dX7_exchanges_29 ?_
    refine q_dup2 B dX7_exchanges_30 rfl rfl ?_
    refine q_ialdS (n := 3 + p) B (mA_s hm) (by simp only [nI_add, q_nI_mul]) (by omega) (by decide) dX7_exchanges_31 ?_
    refine q_iconst (v := 1) B dX7_exchanges_32 rfl ?_
    refine q_isub B dX7_exchanges_33 ?_
    refine q_iastS (n := 3 + p) B (mA_s hm) (by simp only [nI_add, q_nI_mul]) (by omega) (by decide) dX7_exchanges_34 ?_
    refine q_aload_n B dX7_exchanges_35 rfl rfl ?_
    refine q_getR B kC_X7 (k := 1) (by decide) rfl kf_X7_7 hm.1 (mR_s hm) dX7_exchanges_36 ?_
    refine q_bipush (v := nI 11) B dX7_exchanges_39 rfl ?_
    refine q_iload_n B dX7_exchanges_41 rfl rfl ?_
    refine q_iadd B dX7_exchanges_42 ?_
    refine q_dup2 B dX7_exchanges_43 rfl rfl ?_
    refine q_ialdS2 (n := 11 + p) B (mA_s hm) (by simp only [nI_add, q_nI_mul]) (by omega) (by decide) (q_upd_ne (by omega)) dX7_exchanges_44 ?_
    refine q_iconst (v := 1) B dX7_exchanges_45 rfl ?_
    refine q_iadd B dX7_exchanges_46 ?_
    refine q_iastS (n := 11 + p) B (mA_s hm) (by simp only [nI_add, q_nI_mul]) (by omega) (by decide) dX7_exchanges_47 ?_
    refine q_aload_n B dX7_exchanges_48 rfl rfl ?_
    refine q_iload_n B dX7_exchanges_49 rfl rfl ?_
    refine q_iconst (v := nI 1) B dX7_exchanges_50 rfl ?_
    refine q_aload_n B dX7_exchanges_51 rfl rfl ?_
    refine q_iload_n B dX7_exchanges_52 rfl rfl ?_
    refine q_iconst (v := nI 1) B dX7_exchanges_53 rfl ?_
    refine q_rtV B (s_of hm ht (by decide)) kv_yX7_of ki_yX7_of ks_yX7_of km_X7_39 rfl (ci := 7) rfl rfl hm.1 (by decide) rfl (Nat.le_of_ble_eq_true rfl) dX7_exchanges_54 ?_
    refine q_top (y := σ (57 + 7 * t + 1)) (by simp (disch := omega) only [q_upd_ne, q_upd_at]) ?_
    refine q_iconst (v := nI 1) B dX7_exchanges_57 rfl ?_
    refine q_iload_n B dX7_exchanges_58 rfl rfl ?_
    refine q_ishl B dX7_exchanges_59 ?_
    refine q_iconst (v := -1) B dX7_exchanges_60 rfl ?_
    refine q_ixor B dX7_exchanges_61 ?_
    refine q_iand B dX7_exchanges_62 ?_
    refine q_rtV B (s_lay hm ht (by decide)) kv_yX7_lay ki_yX7_lay ks_yX7_lay km_X7_47 rfl (ci := 7) rfl rfl hm.1 (by decide) rfl (Nat.le_of_ble_eq_true rfl) dX7_exchanges_63 ?_
    refine q_aload_n B dX7_exchanges_66 rfl rfl ?_
    refine q_iload_n B dX7_exchanges_67 rfl rfl ?_
    refine q_bipush (v := nI 6) B dX7_exchanges_68 rfl ?_
    refine q_aload_n B dX7_exchanges_70 rfl rfl ?_
    refine q_iload_n B dX7_exchanges_71 rfl rfl ?_
    refine q_bipush (v := nI 6) B dX7_exchanges_72 rfl ?_
    refine q_rtV B (s_of hm ht (by decide)) kv_yX7_of ki_yX7_of ks_yX7_of km_X7_39 rfl (ci := 7) rfl rfl hm.1 (by decide) rfl (Nat.le_of_ble_eq_true rfl) dX7_exchanges_74 ?_
    refine q_top (y := σ (57 + 7 * t + 6)) (by simp (disch := omega) only [q_upd_ne, q_upd_at]) ?_
    refine q_iconst (v := 1) B dX7_exchanges_77 rfl ?_
    refine q_iadd B dX7_exchanges_78 ?_
    refine q_rtV B (s_lay hm ht (by decide)) kv_yX7_lay ki_yX7_lay ks_yX7_lay km_X7_47 rfl (ci := 7) rfl rfl hm.1 (by decide) rfl (Nat.le_of_ble_eq_true rfl) dX7_exchanges_79 ?_
    refine q_iconst (v := 1) B dX7_exchanges_82 rfl ?_
    exact q_zret BM rfl (Or.inr rfl) dX7_exchanges_83 ⟨by simp [a_exch, hb2, hp, c_18], rfl, by simp [a_exch, hb2, hp, c_18]⟩
  · skip
    refine q_iconst (v := 0) B dX7_exchanges_21 rfl ?_
    exact q_zret BM rfl (Or.inl rfl) dX7_exchanges_22 ⟨by simp [a_exch, hb2, hp, c_18], rfl, by simp [a_exch, hb2, hp, c_18]⟩
set_option maxRecDepth 100000 in
set_option maxHeartbeats 4000000 in
theorem s_tests {Sh : q_Sh} {I : q_Mem} {σ : a_A} {o : Nat} (hm : mOk Sh o) {t : Nat} {care : Int32} (ht : t < 30) : q_Rt mX7_tests 1 [.ref o, .int (nI t), .int care] Sh (q_setA I (o + 1) σ) (some (.int (a_test σ t care).2)) (q_setA I (o + 1) (a_test σ t care).1) := by
  refine q_rt_of (by decide) (Nat.le_of_ble_eq_true rfl) fun Γ BM => ?_
  have B := BM.1
  show q_W Γ mX7_tests 0 0 Sh (q_setA I (o + 1) σ) 0 [(0, .ref o), (1, .int (nI t)), (2, .int care)] []
  refine q_aload_n B dX7_tests_0 rfl rfl ?_
  refine q_iload_n B dX7_tests_1 rfl rfl ?_
  refine q_iconst (v := nI 0) B dX7_tests_2 rfl ?_
  refine q_rtV B (s_of_0 hm ht) kv_yX7_of ki_yX7_of ks_yX7_of km_X7_39 rfl (ci := 7) rfl rfl hm.1 (by decide) rfl (Nat.le_of_ble_eq_true rfl) dX7_tests_3 ?_
  refine q_istore_n B dX7_tests_6 rfl (Nat.le_of_ble_eq_true rfl) rfl ?_
  refine q_aload_n B dX7_tests_7 rfl rfl ?_
  refine q_getR B kC_X7 (k := 1) (by decide) rfl kf_X7_7 hm.1 (mR_s hm) dX7_tests_8 ?_
  refine q_iconst (v := nI 0) B dX7_tests_11 rfl ?_
  refine q_ialdS (n := 0) B (mA_s hm) rfl (by omega) (by decide) dX7_tests_12 ?_
  refine q_iload_n B dX7_tests_13 rfl rfl ?_
  refine q_iadd B dX7_tests_14 ?_
  refine q_iload_n B dX7_tests_15 rfl rfl ?_
  refine q_iadd B dX7_tests_16 ?_
  refine q_iconst (v := nI 3) B dX7_tests_17 rfl ?_
  refine q_irem B dX7_tests_18 (by decide +kernel) ?_
  refine q_if_eq (tgt := 45) B dX7_tests_19 (by decide) (fun c_19 => ?_) (fun c_19 => ?_)
  · skip
    refine q_aload_n B dX7_tests_45 rfl rfl ?_
    refine q_iload_n B dX7_tests_46 rfl rfl ?_
    refine q_iconst (v := nI 1) B dX7_tests_47 rfl ?_
    refine q_aload_n B dX7_tests_48 rfl rfl ?_
    refine q_iload_n B dX7_tests_49 rfl rfl ?_
    refine q_iconst (v := nI 1) B dX7_tests_50 rfl ?_
    refine q_rtV B (s_of hm ht (by decide)) kv_yX7_of ki_yX7_of ks_yX7_of km_X7_39 rfl (ci := 7) rfl rfl hm.1 (by decide) rfl (Nat.le_of_ble_eq_true rfl) dX7_tests_51 ?_
    refine q_iconst (v := nI 1) B dX7_tests_54 rfl ?_
    refine q_iload_n B dX7_tests_55 rfl rfl ?_
    refine q_ishl B dX7_tests_56 ?_
    refine q_ior B dX7_tests_57 ?_
    refine q_rtV B (s_lay hm ht (by decide)) kv_yX7_lay ki_yX7_lay ks_yX7_lay km_X7_47 rfl (ci := 7) rfl rfl hm.1 (by decide) rfl (Nat.le_of_ble_eq_true rfl) dX7_tests_58 ?_
    refine q_aload_n B dX7_tests_61 rfl rfl ?_
    refine q_iload_n B dX7_tests_62 rfl rfl ?_
    refine q_iconst (v := nI 5) B dX7_tests_63 rfl ?_
    refine q_aload_n B dX7_tests_64 rfl rfl ?_
    refine q_iload_n B dX7_tests_65 rfl rfl ?_
    refine q_iconst (v := nI 5) B dX7_tests_66 rfl ?_
    refine q_rtV B (s_of hm ht (by decide)) kv_yX7_of ki_yX7_of ks_yX7_of km_X7_39 rfl (ci := 7) rfl rfl hm.1 (by decide) rfl (Nat.le_of_ble_eq_true rfl) dX7_tests_67 ?_
    refine q_top (y := σ (57 + 7 * t + 5)) (by simp (disch := omega) only [q_upd_ne, q_upd_at]) ?_
    refine q_iconst (v := 1) B dX7_tests_70 rfl ?_
    refine q_iadd B dX7_tests_71 ?_
    refine q_rtV B (s_lay hm ht (by decide)) kv_yX7_lay ki_yX7_lay ks_yX7_lay km_X7_47 rfl (ci := 7) rfl rfl hm.1 (by decide) rfl (Nat.le_of_ble_eq_true rfl) dX7_tests_72 ?_
    refine q_join 90 (if σ (57 + 7 * t + 5) + 1 < nI 3 then 1 else 0) ?_ (fun j_75 => ?_)
    · skip
      exact q_zret BM rfl (by split <;> simp) dX7_tests_90 ⟨by simp only [a_test, if_pos c_19], rfl, by simp only [a_test, if_pos c_19]⟩
    · skip
      refine q_aload_n B dX7_tests_75 rfl rfl ?_
      refine q_iload_n B dX7_tests_76 rfl rfl ?_
      refine q_iconst (v := nI 5) B dX7_tests_77 rfl ?_
      refine q_rtV B (s_of hm ht (by decide)) kv_yX7_of ki_yX7_of ks_yX7_of km_X7_39 rfl (ci := 7) rfl rfl hm.1 (by decide) rfl (Nat.le_of_ble_eq_true rfl) dX7_tests_78 ?_
      refine q_top (y := σ (57 + 7 * t + 5) + 1) (by simp (disch := omega) only [q_upd_ne, q_upd_at]) ?_
      refine q_iconst (v := nI 3) B dX7_tests_81 rfl ?_
      refine q_icmp_ge (tgt := 89) B dX7_tests_82 (by decide) (fun c_82 => ?_) (fun c_82 => ?_)
      · skip
        refine q_iconst (v := 0) B dX7_tests_89 rfl ?_
        exact q_top (by first | (rw [if_pos (Int32.not_le.mp c_82)]; done) | (rw [if_neg (Int32.not_lt.mpr c_82)]; done)) j_75
      · skip
        refine q_iconst (v := 1) B dX7_tests_85 rfl ?_
        refine q_goto (tgt := 90) B dX7_tests_86 (by decide) ?_
        exact q_top (by first | (rw [if_pos (Int32.not_le.mp c_82)]; done) | (rw [if_neg (Int32.not_lt.mpr c_82)]; done)) j_75
  · skip
    refine q_aload_n B dX7_tests_22 rfl rfl ?_
    refine q_iload_n B dX7_tests_23 rfl rfl ?_
    refine q_iconst (v := nI 3) B dX7_tests_24 rfl ?_
    refine q_aload_n B dX7_tests_25 rfl rfl ?_
    refine q_iload_n B dX7_tests_26 rfl rfl ?_
    refine q_iconst (v := nI 3) B dX7_tests_27 rfl ?_
    refine q_rtV B (s_of hm ht (by decide)) kv_yX7_of ki_yX7_of ks_yX7_of km_X7_39 rfl (ci := 7) rfl rfl hm.1 (by decide) rfl (Nat.le_of_ble_eq_true rfl) dX7_tests_28 ?_
    refine q_aload_n B dX7_tests_31 rfl rfl ?_
    refine q_iload_n B dX7_tests_32 rfl rfl ?_
    refine q_iconst (v := nI 3) B dX7_tests_33 rfl ?_
    refine q_rtV B (s_of hm ht (by decide)) kv_yX7_of ki_yX7_of ks_yX7_of km_X7_39 rfl (ci := 7) rfl rfl hm.1 (by decide) rfl (Nat.le_of_ble_eq_true rfl) dX7_tests_34 ?_
    refine q_iconst (v := 1) B dX7_tests_37 rfl ?_
    refine q_isub B dX7_tests_38 ?_
    refine q_iand B dX7_tests_39 ?_
    refine q_rtV B (s_lay hm ht (by decide)) kv_yX7_lay ki_yX7_lay ks_yX7_lay km_X7_47 rfl (ci := 7) rfl rfl hm.1 (by decide) rfl (Nat.le_of_ble_eq_true rfl) dX7_tests_40 ?_
    refine q_iconst (v := 1) B dX7_tests_43 rfl ?_
    exact q_zret BM rfl (Or.inr rfl) dX7_tests_44 ⟨by simp only [a_test, if_neg c_19], rfl, by simp only [a_test, if_neg c_19]⟩
