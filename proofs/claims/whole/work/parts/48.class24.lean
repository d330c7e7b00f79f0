theorem s_X5_initR {Sh : q_Sh} {I : q_Mem} {l : Nat} (hl : q_is Sh l 5) : q_Call mX5_init 1 0 0 [.ref l] Sh I (fun v S J => v = none ∧ S = Sh ∧ ∀ m, m ≠ l → J m = I m) := by
  have h := s_X5_init (I := I) (ob := I l) hl
  rw [q_setA_self] at h
  exact q_call_mono h fun v S J q => ⟨q.1, q.2.1, fun m hm => by rw [q.2.2]; exact q_setA_ne hm⟩
theorem s_X1_initR {Sh : q_Sh} {I : q_Mem} {l : Nat} (hl : q_is Sh l 1) : q_Call mX1_init 1 0 0 [.ref l] Sh I (fun v S J => v = none ∧ S = Sh ∧ ∀ m, m ≠ l → J m = I m) := by
  have h := s_X1_init (I := I) (ob := I l) hl
  rw [q_setA_self] at h
  exact q_call_mono h fun v S J q => ⟨q.1, q.2.1, fun m hm => by rw [q.2.2]; exact q_setA_ne hm⟩
theorem s_X3_initR {Sh : q_Sh} {I : q_Mem} {l : Nat} (hl : q_is Sh l 3) : q_Call mX3_init 1 0 0 [.ref l] Sh I (fun v S J => v = none ∧ S = Sh ∧ (∀ m, m ≠ l → J m = I m) ∧ J l 0 = 1 ∧ J l 1 = 0 ∧ J l 2 = 0) := by
  have h := s_X3_init (I := I) (ob := I l) hl
  rw [q_setA_self] at h
  exact q_call_mono h fun v S J q => ⟨q.1, q.2.1, fun m hm => by rw [q.2.2]; exact q_setA_ne hm, by rw [q.2.2, q_setA_at]; rfl, by rw [q.2.2, q_setA_at]; rfl, by rw [q.2.2, q_setA_at]; rfl⟩
theorem m_Cf.z {b : Nat} {S : q_Sh} (h1 : S.1 = b + 1) (h2 : q_cl S) (h3 : q_is S b 0) : m_Cf b 1 S := by
  refine ⟨h1, h2, fun j hj => ?_, fun j k hj hk => ?_⟩
  · obtain rfl : j = 0 := by omega
    exact h3.2
  · exfalso
    obtain rfl : j = 0 := by omega
    revert hk
    unfold m_rm
    (repeat' split) <;> omega
set_option maxRecDepth 100000 in
set_option maxHeartbeats 4000000 in
theorem s_X0_init {Sh : q_Sh} {I : q_Mem} {b : Nat} {ob : a_A} (hX : q_is Sh b 0) (hb : Sh.1 = b + 1) (hcl : q_cl Sh) : q_Call mX0_init 2 46 337 [.ref b] Sh (q_setA I b ob) (fun v S J => v = none ∧ m_Cf b 47 S ∧ m_Mv b 47 I J ∧ q_gr b Sh S) := by
  refine q_call_of (by decide) (Nat.le_of_ble_eq_true rfl) fun Γ BM => ?_
  have B := BM.1
  show q_W Γ mX0_init 46 337 Sh (q_setA I b ob) 0 [(0, .ref b)] []
  refine q_aload_n B dX0_init_0 rfl rfl ?_
  refine q_objInit B km_X0_3 ki_objectInit kc_objectInit (by decide) (Nat.le_of_ble_eq_true rfl) dX0_init_1 ?_
  refine q_aload_n B dX0_init_4 rfl rfl ?_
  refine q_iconst (v := 0) B dX0_init_5 rfl ?_
  refine q_putIo B kC_X0 (k := 0) (by decide) rfl kf_X0_9 rfl rfl rfl hX rfl dX0_init_6 ?_
  refine q_aload_n B dX0_init_9 rfl rfl ?_
  refine q_iconst (v := 0) B dX0_init_10 rfl ?_
  refine q_putIo B kC_X0 (k := 1) (by decide) rfl kf_X0_15 rfl rfl rfl hX rfl dX0_init_11 ?_
  refine q_aload_n B dX0_init_14 rfl rfl ?_
  refine q_iconst (v := 0) B dX0_init_15 rfl ?_
  refine q_putIo B kC_X0 (k := 2) (by decide) rfl kf_X0_18 rfl rfl rfl hX rfl dX0_init_16 ?_
  have h1 := m_Cf.z hb hcl hX
  have g1 : q_gr b Sh Sh := q_gr.rf (by omega)
  have v1 : m_Mv b 1 I (q_setA I b (upd (upd (upd ob 0 0) 1 0) 2 0)) := ⟨⟨by rw [q_setA_at]; rfl, by rw [q_setA_at]; rfl, by rw [q_setA_at]; rfl⟩, fun p hp => absurd hp (by omega), fun l hl => q_setA_ne (by omega)⟩
  generalize q_setA I b (upd (upd (upd ob 0 0) 1 0) 2 0) = J1 at v1 ⊢
  refine q_aload_n B dX0_init_19 rfl rfl ?_
  refine q_bipush (v := nI 30) B dX0_init_20 rfl ?_
  refine q_less (rc' := 45 + 1) (rs' := 307 + 30) (by decide) (by decide) (q_anew (t := 3) (N := 30) B kl_X0_21 (by simp [q_al]) rfl (by decide) (by decide) (by decide) (q_cl_f hcl) ⟨q_ovl_lv (by simp only [q_ovl, q_ov, List.map, and_true, true_and] <;> omega), q_ovl_old (by simp only [q_ovl, q_ov, List.map, and_true, true_and] <;> omega)⟩ dX0_init_22 ?_)
  refine q_putFR B kC_X0 (k := 3) (by decide) rfl kf_X0_23 rfl rfl rfl (q_nS_gr.is (by omega) hX) dX0_init_25 ?_
  change q_W Γ mX0_init _ _ (m_S2 Sh (.inr (3, 30)) b 3) _ 28 _ _
  have h2 : m_Cf b 2 (m_S2 Sh (.inr (3, 30)) b 3) := h1.s (j0 := 0) (k0 := 3) (by decide) rfl (by decide) (fun j k q => by have := m_inj q (by decide); omega)
  have g2 := g1.tr (m_S2_gr (S := Sh) (kd := .inr (3, 30)) (k0 := 3) (Nat.le_refl b) (by omega)) (Nat.le_refl b)
  have v2 : m_Mv b 2 I (q_nI J1 Sh.1) := v1.s (by decide) (fun l hl => q_nI_ne (by omega)) (fun q => absurd q (by decide))
  generalize m_S2 Sh (.inr (3, 30)) b 3 = S2 at h2 g2 ⊢
  generalize q_nI J1 Sh.1 = J2 at v2 ⊢
  have e2 := h2.1
  have hX := h2.is (j := 0) (by decide) rfl
  refine q_aload_n B dX0_init_28 rfl rfl ?_
  refine q_iconst (v := nI 5) B dX0_init_29 rfl ?_
  refine q_less (rc' := 44 + 1) (rs' := 302 + 5) (by decide) (by decide) (q_anew (t := 4) (N := 5) B kl_X0_27 (by simp [q_al]) rfl (by decide) (by decide) (by decide) (q_cl_f h2.2.1) ⟨q_ovl_lv (by simp only [q_ovl, q_ov, List.map, and_true, true_and] <;> omega), q_ovl_old (by simp only [q_ovl, q_ov, List.map, and_true, true_and] <;> omega)⟩ dX0_init_30 ?_)
  refine q_putFR B kC_X0 (k := 4) (by decide) rfl kf_X0_29 rfl rfl rfl (q_nS_gr.is (by omega) hX) dX0_init_33 ?_
  change q_W Γ mX0_init _ _ (m_S2 S2 (.inr (4, 5)) b 4) _ 36 _ _
  have h3 : m_Cf b 3 (m_S2 S2 (.inr (4, 5)) b 4) := h2.s (j0 := 0) (k0 := 4) (by decide) rfl (by decide) (fun j k q => by have := m_inj q (by decide); omega)
  have g3 := g2.tr (m_S2_gr (S := S2) (kd := .inr (4, 5)) (k0 := 4) (Nat.le_refl b) (by omega)) (Nat.le_refl b)
  have v3 : m_Mv b 3 I (q_nI J2 S2.1) := v2.s (by decide) (fun l hl => q_nI_ne (by omega)) (fun q => absurd q (by decide))
  generalize m_S2 S2 (.inr (4, 5)) b 4 = S3 at h3 g3 ⊢
  generalize q_nI J2 S2.1 = J3 at v3 ⊢
  have e3 := h3.1
  have hX := h3.is (j := 0) (by decide) rfl
  refine q_aload_n B dX0_init_36 rfl rfl ?_
  refine q_bipush (v := nI 8) B dX0_init_37 rfl ?_
  refine q_less (rc' := 43 + 1) (rs' := 294 + 8) (by decide) (by decide) (q_anew (t := 5) (N := 8) B kl_X0_33 (by simp [q_al]) rfl (by decide) (by decide) (by decide) (q_cl_f h3.2.1) ⟨q_ovl_lv (by simp only [q_ovl, q_ov, List.map, and_true, true_and] <;> omega), q_ovl_old (by simp only [q_ovl, q_ov, List.map, and_true, true_and] <;> omega)⟩ dX0_init_39 ?_)
  refine q_putFR B kC_X0 (k := 5) (by decide) rfl kf_X0_35 rfl rfl rfl (q_nS_gr.is (by omega) hX) dX0_init_42 ?_
  change q_W Γ mX0_init _ _ (m_S2 S3 (.inr (5, 8)) b 5) _ 45 _ _
  have h4 : m_Cf b 4 (m_S2 S3 (.inr (5, 8)) b 5) := h3.s (j0 := 0) (k0 := 5) (by decide) rfl (by decide) (fun j k q => by have := m_inj q (by decide); omega)
  have g4 := g3.tr (m_S2_gr (S := S3) (kd := .inr (5, 8)) (k0 := 5) (Nat.le_refl b) (by omega)) (Nat.le_refl b)
  have v4 : m_Mv b 4 I (q_nI J3 S3.1) := v3.s (by decide) (fun l hl => q_nI_ne (by omega)) (fun q => absurd q (by decide))
  generalize m_S2 S3 (.inr (5, 8)) b 5 = S4 at h4 g4 ⊢
  generalize q_nI J3 S3.1 = J4 at v4 ⊢
  have e4 := h4.1
  have hX := h4.is (j := 0) (by decide) rfl
  refine q_iconst (v := nI 0) B dX0_init_45 rfl ?_
  refine q_istore_n B dX0_init_46 rfl (Nat.le_of_ble_eq_true rfl) rfl ?_
  have hl_47 : ∀ (n i : Nat) (S : q_Sh) (J : q_Mem), i + n = 30 → (m_Cf b (4 + i) S ∧ m_Mv b (4 + i) I J ∧ q_gr b Sh S) → q_W Γ mX0_init (n + 13) (8 * n + 54) S J 47 [(0, .ref b), (1, .int (nI i))] [] := by
    intro n
    induction n with
    | zero =>
      intro i S J hin hinv
      have hi : i = 30 := by omega
      subst hi
      obtain ⟨hC, hV, hg⟩ := hinv
      have hX := hC.is (j := 0) (by decide) rfl
      refine q_iload_n B dX0_init_47 rfl rfl ?_
      refine q_aload_n B dX0_init_48 rfl rfl ?_
      refine q_getR B kC_X0 (k := 3) (by decide) rfl kf_X0_23 hX (hC.rf (j := 0) (m := 1) (by decide) (by decide) rfl) dX0_init_49 ?_
      refine q_alen B (hC.ar (j := 1) (by decide) rfl) rfl dX0_init_52 ?_
      refine q_icmp_ge (tgt := 75) B dX0_init_53 (by decide) (fun _ => ?_) (fun h => absurd (q_le (Nat.le_refl 30) (by decide)) h)
      refine q_iconst (v := nI 0) B dX0_init_75 rfl ?_
      refine q_istore_n B dX0_init_76 rfl (Nat.le_of_ble_eq_true rfl) rfl ?_
      have hl_77 : ∀ (n i : Nat) (S : q_Sh) (J : q_Mem), i + n = 5 → (m_Cf b (34 + i) S ∧ m_Mv b (34 + i) I J ∧ q_gr b Sh S) → q_W Γ mX0_init (n + 8) (6 * n + 24) S J 77 [(0, .ref b), (1, .int (nI i))] [] := by
        intro n
        induction n with
        | zero =>
          intro i S J hin hinv
          have hi : i = 5 := by omega
          subst hi
          obtain ⟨hC, hV, hg⟩ := hinv
          have hX := hC.is (j := 0) (by decide) rfl
          refine q_iload_n B dX0_init_77 rfl rfl ?_
          refine q_aload_n B dX0_init_78 rfl rfl ?_
          refine q_getR B kC_X0 (k := 4) (by decide) rfl kf_X0_29 hX (hC.rf (j := 0) (m := 2) (by decide) (by decide) rfl) dX0_init_79 ?_
          refine q_alen B (hC.ar (j := 2) (by decide) rfl) rfl dX0_init_82 ?_
          refine q_icmp_ge (tgt := 105) B dX0_init_83 (by decide) (fun _ => ?_) (fun h => absurd (q_le (Nat.le_refl 5) (by decide)) h)
          refine q_iconst (v := nI 0) B dX0_init_105 rfl ?_
          refine q_istore_n B dX0_init_106 rfl (Nat.le_of_ble_eq_true rfl) rfl ?_
          have hl_107 : ∀ (n i : Nat) (S : q_Sh) (J : q_Mem), i + n = 8 → (m_Cf b (39 + i) S ∧ m_Mv b (39 + i) I J ∧ q_gr b Sh S) → q_W Γ mX0_init (n) (3 * n) S J 107 [(0, .ref b), (1, .int (nI i))] [] := by
            intro n
            induction n with
            | zero =>
              intro i S J hin hinv
              have hi : i = 8 := by omega
              subst hi
              obtain ⟨hC, hV, hg⟩ := hinv
              have hX := hC.is (j := 0) (by decide) rfl
              refine q_iload_n B dX0_init_107 rfl rfl ?_
              refine q_aload_n B dX0_init_108 rfl rfl ?_
              refine q_getR B kC_X0 (k := 5) (by decide) rfl kf_X0_35 hX (hC.rf (j := 0) (m := 3) (by decide) (by decide) rfl) dX0_init_109 ?_
              refine q_alen B (hC.ar (j := 3) (by decide) rfl) rfl dX0_init_112 ?_
              refine q_icmp_ge (tgt := 135) B dX0_init_113 (by decide) (fun _ => ?_) (fun h => absurd (q_le (Nat.le_refl 8) (by decide)) h)
              exact q_vret BM rfl dX0_init_135 ⟨rfl, hC, hV, hg⟩
            | succ n ih =>
              intro i S J hin hinv
              have hiN : i < 8 := by omega
              obtain ⟨hC, hV, hg⟩ := hinv
              have hX := hC.is (j := 0) (by omega) rfl
              have eS := hC.1
              refine q_iload_n B dX0_init_107 rfl rfl ?_
              refine q_aload_n B dX0_init_108 rfl rfl ?_
              refine q_getR B kC_X0 (k := 5) (by decide) rfl kf_X0_35 hX (hC.rf (j := 0) (m := 3) (by omega) (by omega) rfl) dX0_init_109 ?_
              refine q_alen B (hC.ar (j := 3) (by omega) rfl) rfl dX0_init_112 ?_
              refine q_icmp_ge (tgt := 135) B dX0_init_113 (by decide) (fun h => absurd h (q_nle hiN (by decide))) (fun _ => ?_)
              refine q_aload_n B dX0_init_116 rfl rfl ?_
              refine q_getR B kC_X0 (k := 5) (by decide) rfl kf_X0_35 hX (hC.rf (j := 0) (m := 3) (by omega) (by omega) rfl) dX0_init_117 ?_
              refine q_iload_n B dX0_init_120 rfl rfl ?_
              refine q_less (rc' := n + 1) (rs' := 3 * n + 3) (by omega) (by omega) (q_new B kC_X3 kl_X0_33 k1_X3 k0_X3 (by decide +kernel) (q_cl_f hC.2.1) ⟨q_ovl_lv (by simp only [q_ovl, q_ov, List.map, and_true, true_and] <;> omega), q_ovl_old (by simp only [q_ovl, q_ov, List.map, and_true, true_and] <;> omega)⟩ dX0_init_121 ?_)
              refine q_dup B dX0_init_124 rfl ?_
              refine q_callIN (rc := n) (mc := 0) (rs := 3 * n) (ms := 0) (As := []) B (s_X3_initR q_nS_is) kv_yX3_init ki_yX3_init rfl rfl kn_X0_41 rfl (by decide) (Nat.le_of_ble_eq_true rfl) dX0_init_125 (fun v S2 J2 hx => ?_)
              obtain ⟨rfl, rfl, hx3, hx4, hx5, hx6⟩ := hx
              refine ⟨Or.inl rfl, ?_⟩
              refine q_aastore (r := (RX3, TX3, 3)) B (q_nS_gr.ar (by omega) (hC.ar (j := 3) (by omega) rfl)) rfl kC_X3.1 q_nS_is (vp_in_nI (by omega) (by decide)) dX0_init_128 ?_
              rw [nI_clamp (by omega)]
              change q_W Γ mX0_init _ _ (m_S2 S (.inl 3) (b + 3) i) _ 129 _ _
              refine q_iinc2 (y := nI (i + 1)) B dX0_init_129 rfl (q_inc1 _) (Nat.le_of_ble_eq_true rfl) rfl ?_
              refine q_goto (tgt := 107) B dX0_init_132 (by decide) ?_
              exact q_tk (ih (i + 1) (m_S2 S (.inl 3) (b + 3) i) J2 (by omega) ⟨hC.p hiN, hV.s (by omega) (fun l hl => (hx3 l (by omega)).trans (q_nI_ne (by omega))) (fun _ => ⟨by rw [← eS]; exact hx4, by rw [← eS]; exact hx5, by rw [← eS]; exact hx6⟩), hg.tr (m_S2_gr (by omega) (by omega)) (Nat.le_refl b)⟩) rfl (q_ac rfl (q_ac rfl q_an))
          exact q_tk (hl_107 8 0 S J (by omega) ⟨hC, hV, hg⟩) rfl (q_ac rfl (q_ac rfl q_an))
        | succ n ih =>
          intro i S J hin hinv
          have hiN : i < 5 := by omega
          obtain ⟨hC, hV, hg⟩ := hinv
          have hX := hC.is (j := 0) (by omega) rfl
          have eS := hC.1
          refine q_iload_n B dX0_init_77 rfl rfl ?_
          refine q_aload_n B dX0_init_78 rfl rfl ?_
          refine q_getR B kC_X0 (k := 4) (by decide) rfl kf_X0_29 hX (hC.rf (j := 0) (m := 2) (by omega) (by omega) rfl) dX0_init_79 ?_
          refine q_alen B (hC.ar (j := 2) (by omega) rfl) rfl dX0_init_82 ?_
          refine q_icmp_ge (tgt := 105) B dX0_init_83 (by decide) (fun h => absurd h (q_nle hiN (by decide))) (fun _ => ?_)
          refine q_aload_n B dX0_init_86 rfl rfl ?_
          refine q_getR B kC_X0 (k := 4) (by decide) rfl kf_X0_29 hX (hC.rf (j := 0) (m := 2) (by omega) (by omega) rfl) dX0_init_87 ?_
          refine q_iload_n B dX0_init_90 rfl rfl ?_
          refine q_less (rc' := n + 8 + 1) (rs' := 6 * n + 24 + 6) (by omega) (by omega) (q_new B kC_X1 kl_X0_27 k1_X1 k0_X1 (by decide +kernel) (q_cl_f hC.2.1) ⟨q_ovl_lv (by simp only [q_ovl, q_ov, List.map, and_true, true_and] <;> omega), q_ovl_old (by simp only [q_ovl, q_ov, List.map, and_true, true_and] <;> omega)⟩ dX0_init_91 ?_)
          refine q_dup B dX0_init_94 rfl ?_
          refine q_callIN (rc := n + 8) (mc := 0) (rs := 6 * n + 24) (ms := 0) (As := []) B (s_X1_initR q_nS_is) kv_yX1_init ki_yX1_init rfl rfl kn_X0_40 rfl (by decide) (Nat.le_of_ble_eq_true rfl) dX0_init_95 (fun v S2 J2 hx => ?_)
          obtain ⟨rfl, rfl, hx3⟩ := hx
          refine ⟨Or.inl rfl, ?_⟩
          refine q_aastore (r := (RX1, TX1, 6)) B (q_nS_gr.ar (by omega) (hC.ar (j := 2) (by omega) rfl)) rfl kC_X1.1 q_nS_is (vp_in_nI (by omega) (by decide)) dX0_init_98 ?_
          rw [nI_clamp (by omega)]
          change q_W Γ mX0_init _ _ (m_S2 S (.inl 1) (b + 2) i) _ 99 _ _
          refine q_iinc2 (y := nI (i + 1)) B dX0_init_99 rfl (q_inc1 _) (Nat.le_of_ble_eq_true rfl) rfl ?_
          refine q_goto (tgt := 77) B dX0_init_102 (by decide) ?_
          exact q_tk (ih (i + 1) (m_S2 S (.inl 1) (b + 2) i) J2 (by omega) ⟨hC.f hiN, hV.s (by omega) (fun l hl => (hx3 l (by omega)).trans (q_nI_ne (by omega))) (fun q => absurd q (by omega)), hg.tr (m_S2_gr (by omega) (by omega)) (Nat.le_refl b)⟩) rfl (q_ac rfl (q_ac rfl q_an))
      exact q_tk (hl_77 5 0 S J (by omega) ⟨hC, hV, hg⟩) rfl (q_ac rfl (q_ac rfl q_an))
    | succ n ih =>
      intro i S J hin hinv
      have hiN : i < 30 := by omega
      obtain ⟨hC, hV, hg⟩ := hinv
      have hX := hC.is (j := 0) (by omega) rfl
      have eS := hC.1
      refine q_iload_n B dX0_init_47 rfl rfl ?_
      refine q_aload_n B dX0_init_48 rfl rfl ?_
      refine q_getR B kC_X0 (k := 3) (by decide) rfl kf_X0_23 hX (hC.rf (j := 0) (m := 1) (by omega) (by omega) rfl) dX0_init_49 ?_
      refine q_alen B (hC.ar (j := 1) (by omega) rfl) rfl dX0_init_52 ?_
      refine q_icmp_ge (tgt := 75) B dX0_init_53 (by decide) (fun h => absurd h (q_nle hiN (by decide))) (fun _ => ?_)
      refine q_aload_n B dX0_init_56 rfl rfl ?_
      refine q_getR B kC_X0 (k := 3) (by decide) rfl kf_X0_23 hX (hC.rf (j := 0) (m := 1) (by omega) (by omega) rfl) dX0_init_57 ?_
      refine q_iload_n B dX0_init_60 rfl rfl ?_
      refine q_less (rc' := n + 13 + 1) (rs' := 8 * n + 54 + 8) (by omega) (by omega) (q_new B kC_X5 kl_X0_21 k1_X5 k0_X5 (by decide +kernel) (q_cl_f hC.2.1) ⟨q_ovl_lv (by simp only [q_ovl, q_ov, List.map, and_true, true_and] <;> omega), q_ovl_old (by simp only [q_ovl, q_ov, List.map, and_true, true_and] <;> omega)⟩ dX0_init_61 ?_)
      refine q_dup B dX0_init_64 rfl ?_
      refine q_callIN (rc := n + 13) (mc := 0) (rs := 8 * n + 54) (ms := 0) (As := []) B (s_X5_initR q_nS_is) kv_yX5_init ki_yX5_init rfl rfl kn_X0_39 rfl (by decide) (Nat.le_of_ble_eq_true rfl) dX0_init_65 (fun v S2 J2 hx => ?_)
      obtain ⟨rfl, rfl, hx3⟩ := hx
      refine ⟨Or.inl rfl, ?_⟩
      refine q_aastore (r := (RX5, TX5, 8)) B (q_nS_gr.ar (by omega) (hC.ar (j := 1) (by omega) rfl)) rfl kC_X5.1 q_nS_is (vp_in_nI (by omega) (by decide)) dX0_init_68 ?_
      rw [nI_clamp (by omega)]
      change q_W Γ mX0_init _ _ (m_S2 S (.inl 5) (b + 1) i) _ 69 _ _
      refine q_iinc2 (y := nI (i + 1)) B dX0_init_69 rfl (q_inc1 _) (Nat.le_of_ble_eq_true rfl) rfl ?_
      refine q_goto (tgt := 47) B dX0_init_72 (by decide) ?_
      exact q_tk (ih (i + 1) (m_S2 S (.inl 5) (b + 1) i) J2 (by omega) ⟨hC.t hiN, hV.s (by omega) (fun l hl => (hx3 l (by omega)).trans (q_nI_ne (by omega))) (fun q => absurd q (by omega)), hg.tr (m_S2_gr (by omega) (by omega)) (Nat.le_refl b)⟩) rfl (q_ac rfl (q_ac rfl q_an))
  exact q_tk (hl_47 30 0 S4 J4 (by omega) ⟨h4, v4, g4⟩) rfl (q_ac rfl (q_ac rfl q_an))
