theorem s_X2_initR {Sh : q_Sh} {I : q_Mem} {q : Nat} (hX : q_is Sh q 2) (hb : Sh.1 = q + 1) (hcl : q_cl Sh) : q_Call mX2_init 1 1 80 [.ref q] Sh I (fun v S J => v = none ∧ S = m_S2 Sh (.inr (2, 80)) q 7 ∧ J q 0 = 0 ∧ ∀ l, l < q → J l = I l) := by
  have h := s_X2_init (I := I) (ob := I q) hX hb hcl
  rw [q_setA_self] at h
  exact h
theorem s_X4_initR {Sh : q_Sh} {I : q_Mem} {p : Nat} (hX : q_is Sh p 4) (hb : Sh.1 = p + 1) (hcl : q_cl Sh) : q_Call mX4_init 3 330 2408 [.ref p] Sh I (fun v S J => v = none ∧ m_Pf p 7 S ∧ q_gr p Sh S ∧ (∀ l, l < p → J l = I l) ∧ J p 0 = 0 ∧ J p 1 = 0) := by
  have h := s_X4_init (I := I) (ob := I p) hX hb hcl
  rw [q_setA_self] at h
  exact h
theorem q_gr.le {n m : Nat} {S0 S1 : q_Sh} (h : q_gr n S0 S1) (hm : m ≤ n) : q_gr m S0 S1 := ⟨⟨Nat.le_trans hm h.1.1, Nat.le_trans hm h.1.2⟩, fun l hl => h.2 l (by omega)⟩
theorem m_Pad {S : q_Sh} (hcl : q_cl S) : gOk (m_S2 (q_nS S (.inl 2)) (.inr (2, 80)) S.1 7) S.1 ∧ q_gr S.1 S (m_S2 (q_nS S (.inl 2)) (.inr (2, 80)) S.1 7) ∧ (m_S2 (q_nS S (.inl 2)) (.inr (2, 80)) S.1 7).1 = S.1 + 2 ∧ q_cl (m_S2 (q_nS S (.inl 2)) (.inr (2, 80)) S.1 7) := by
  have e : (q_nS S (.inl 2)).1 = S.1 + 1 := rfl
  have h1 := m_S2_cl (kd := .inr (2, 80)) (k0 := 7) (q_nS_cl (kd := .inl 2) hcl) (l0 := S.1) (by omega)
  refine ⟨⟨⟨by show S.1 < S.1 + 1 + 1; omega, (m_S2_kd (by omega)).trans (if_pos rfl)⟩, m_S2_at, ⟨by show S.1 + 1 < S.1 + 1 + 1; omega, m_S2_new⟩⟩, q_nS_gr.tr (m_S2_gr (Nat.le_refl _) (by omega)) (Nat.le_refl _), rfl, h1⟩
/-! the reference's object, place by place -/
def m_mk (j : Nat) : q_Kd := if j = 1 then .inr (0, 267) else if j = 2 then .inr (0, 267) else if j = 3 then .inr (0, 1602) else if j = 4 then .inr (0, 534) else if j = 5 then .inr (1, 2) else if j = 6 then .inr (0, 80) else .inr (0, 240)
def m_mf (j : Nat) : Nat := if j ≤ 3 then j else if j = 7 then 11 else j + 1
def m_Mo (o n : Nat) (S : q_Sh) : Prop := S.1 = o + n ∧ q_cl S ∧ q_is S o 7 ∧ ∀ j, 0 < j → j < n → S.2.1 (o + j) = m_mk j ∧ S.2.2 o (m_mf j) = some (o + j)
theorem m_Mo.s {o n : Nat} {S : q_Sh} (h : m_Mo o n S) (hn : 0 < n) (hn8 : n < 8) : m_Mo o (n + 1) (m_S2 S (m_mk n) o (m_mf n)) := by
  obtain ⟨h1, h2, h3, h4⟩ := h
  refine ⟨by show S.1 + 1 = _; omega, m_S2_cl h2 (by omega), ⟨by show o < S.1 + 1; omega, (m_S2_kd (by omega)).trans h3.2⟩, fun j j0 hj => ?_⟩
  by_cases q : j = n
  · subst q
    refine ⟨?_, ?_⟩
    · rw [← h1]; exact m_S2_new
    · rw [m_S2_at, h1]
  · have hf : m_mf j ≠ m_mf n := by
      unfold m_mf
      (repeat' split) <;> omega
    obtain ⟨h5, h6⟩ := h4 j j0 (by omega)
    exact ⟨(m_S2_kd (by omega)).trans h5, (m_S2_rf (by omega) (fun z => hf z.2)).trans h6⟩
theorem m_Mo.ok {o : Nat} {S : q_Sh} (h : m_Mo o 8 S) : mOk S o := by
  obtain ⟨h1, h2, h3, h4⟩ := h
  have k := fun j (j0 : 0 < j) (j8 : j < 8) => (show S.2.2 o (m_mf j) = some (o + j) ∧ o + j < S.1 ∧ S.2.1 (o + j) = m_mk j from ⟨(h4 j j0 j8).2, by omega, (h4 j j0 j8).1⟩)
  exact ⟨h3, k 1 (by decide) (by decide), k 2 (by decide) (by decide), k 3 (by decide) (by decide), k 4 (by decide) (by decide), k 5 (by decide) (by decide), k 6 (by decide) (by decide), k 7 (by decide) (by decide)⟩
theorem a_new_8 : (fun k => if 3 ≤ k ∧ k < 3 + 8 then (1 : Int32) else 0) = a_new := rfl
def a_nw (i : Nat) : a_A := fun k => if 3 ≤ k ∧ k < 3 + i then 1 else 0
theorem a_nw_0 : (fun _ => (0 : Int32)) = a_nw 0 := by
  funext k
  unfold a_nw
  rw [if_neg (by omega)]
theorem a_nw_s (i : Nat) : upd (a_nw i) (3 + i) 1 = a_nw (i + 1) := by
  funext k
  unfold a_nw
  by_cases h : k = 3 + i
  · subst h
    rw [q_upd_at, if_pos (by omega)]
  · rw [q_upd_ne h]
    by_cases h2 : 3 ≤ k ∧ k < 3 + i
    · rw [if_pos h2, if_pos (by omega)]
    · rw [if_neg h2, if_neg (by omega)]
set_option maxRecDepth 100000 in
set_option maxHeartbeats 4000000 in
theorem s_X6_init {Sh : q_Sh} {I : q_Mem} {d : Nat} (hX : q_is Sh d 6) (hb : Sh.1 = d + 1) (hcl : q_cl Sh) : q_Call mX6_init 4 428 3187 [.ref d] Sh I (fun v S J => v = none ∧ dOk S d ∧ S.1 = d + 429 ∧ q_cl S ∧ q_gr d Sh S ∧ (∀ c, S.2.2 (d + 426) c = none) ∧ Rs (d + 1) J a_new ∧ (J (d + 95) 0 = 0 ∧ J (d + 95) 1 = 0) ∧ J (d + 427) 0 = 0 ∧ ∀ l, l < d → J l = I l) := by
  refine q_call_of (by decide) (Nat.le_of_ble_eq_true rfl) fun Γ BM => ?_
  have B := BM.1
  show q_W Γ mX6_init 428 3187 Sh (I) 0 [(0, .ref d)] []
  refine q_aload_n B dX6_init_0 rfl rfl ?_
  refine q_objInit B km_X6_1 ki_objectInit kc_objectInit (by decide) (Nat.le_of_ble_eq_true rfl) dX6_init_1 ?_
  refine q_aload_n B dX6_init_4 rfl rfl ?_
  have eN : (q_nS Sh (.inl 0)).1 = Sh.1 + 1 := rfl
  refine q_less (rc' := 427 + 1) (rs' := 3181 + 6) (by omega) (by omega) (q_new B kC_X0 kl_X6_7 k1_X0 k0_X0 (by decide +kernel) (q_cl_f hcl) ⟨q_ovl_lv (by simp only [q_ovl, q_ov, List.map, and_true, true_and] <;> omega), q_ovl_old (by simp only [q_ovl, q_ov, List.map, and_true, true_and] <;> omega)⟩ dX6_init_5 ?_)
  refine q_dup B dX6_init_8 rfl ?_
  refine q_callI (rc := 381) (mc := 46) (rs := 2844) (ms := 337) (As := []) B (s_X0_initR q_nS_is rfl (q_nS_cl hcl)) kv_yX0_init ki_yX0_init rfl rfl km_X6_9 rfl (by decide) (Nat.le_of_ble_eq_true rfl) dX6_init_9 (fun v S1 J1 hx => ?_)
  obtain ⟨rfl, hC1, hV1, hg1⟩ := hx
  have hg1 := q_nS_gr.tr hg1 (Nat.le_refl _)
  have eS1 := hC1.1
  refine ⟨Or.inr ⟨q_ovl_lv (by simp only [q_ovl, q_ov, List.map, and_true, true_and] <;> omega), q_ovl_old (by simp only [q_ovl, q_ov, List.map, and_true, true_and] <;> omega)⟩, ?_⟩
  refine q_putFR B kC_X6 (k := 0) (by decide) rfl kf_X6_10 rfl rfl rfl (hg1.is (by omega) hX) dX6_init_12 ?_
  have k0 : m_Dk d 0 Sh := ⟨hX, fun q => absurd q (by decide), fun q => absurd q (by decide), fun q => absurd q (by decide), fun q => absurd q (by decide)⟩
  change q_W Γ mX6_init _ _ (m_R S1 d 0 Sh.1) _ 15 _ _
  have k1 := m_Dk.n1 k0 hb hg1 hC1
  have gg1 := (hg1.le (by omega)).tr (m_R_gr (l := d) (k := 0) (x := Sh.1) (Nat.le_refl d) (by omega)) (Nat.le_refl d)
  have cl1 := m_R_cl (l := d) (k := 0) (x := Sh.1) hC1.2.1 (by omega)
  have e1 : (m_R S1 d 0 Sh.1).1 = d + 48 := by show S1.1 = _; omega
  generalize m_R S1 d 0 Sh.1 = T1 at k1 gg1 cl1 e1 ⊢
  refine q_aload_n B dX6_init_15 rfl rfl ?_
  have eN1 : (q_nS T1 (.inl 0)).1 = T1.1 + 1 := rfl
  refine q_less (rc' := 380 + 1) (rs' := 2838 + 6) (by omega) (by omega) (q_new B kC_X0 kl_X6_7 k1_X0 k0_X0 (by decide +kernel) (q_cl_f cl1) ⟨q_ovl_lv (by simp only [q_ovl, q_ov, List.map, and_true, true_and] <;> omega), q_ovl_old (by simp only [q_ovl, q_ov, List.map, and_true, true_and] <;> omega)⟩ dX6_init_16 ?_)
  refine q_dup B dX6_init_19 rfl ?_
  refine q_callI (rc := 334) (mc := 46) (rs := 2501) (ms := 337) (As := []) B (s_X0_initR q_nS_is rfl (q_nS_cl cl1)) kv_yX0_init ki_yX0_init rfl rfl km_X6_9 rfl (by decide) (Nat.le_of_ble_eq_true rfl) dX6_init_20 (fun v S2 J2 hx => ?_)
  obtain ⟨rfl, hC2, hV2, hg2⟩ := hx
  have hg2 := q_nS_gr.tr hg2 (Nat.le_refl _)
  have eS2 := hC2.1
  refine ⟨Or.inr ⟨q_ovl_lv (by simp only [q_ovl, q_ov, List.map, and_true, true_and] <;> omega), q_ovl_old (by simp only [q_ovl, q_ov, List.map, and_true, true_and] <;> omega)⟩, ?_⟩
  refine q_putFR B kC_X6 (k := 1) (by decide) rfl kf_X6_16 rfl rfl rfl (hg2.is (by omega) k1.1) dX6_init_23 ?_
  change q_W Γ mX6_init _ _ (m_R S2 d 1 T1.1) _ 26 _ _
  have k2 := m_Dk.n2 k1 e1 hg2 hC2
  have gg2 := (gg1.tr (hg2.le (m := d) (by omega)) (Nat.le_refl d)).tr (m_R_gr (l := d) (k := 1) (x := T1.1) (Nat.le_refl d) (by omega)) (Nat.le_refl d)
  have cl2 := m_R_cl (l := d) (k := 1) (x := T1.1) hC2.2.1 (by omega)
  have e2 : (m_R S2 d 1 T1.1).1 = d + 95 := by show S2.1 = _; omega
  generalize m_R S2 d 1 T1.1 = T2 at k2 gg2 cl2 e2 ⊢
  refine q_aload_n B dX6_init_26 rfl rfl ?_
  have eN2 : (q_nS T2 (.inl 4)).1 = T2.1 + 1 := rfl
  refine q_less (rc' := 333 + 1) (rs' := 2498 + 3) (by omega) (by omega) (q_new B kC_X4 kl_X6_19 k1_X4 k0_X4 (by decide +kernel) (q_cl_f cl2) ⟨q_ovl_lv (by simp only [q_ovl, q_ov, List.map, and_true, true_and] <;> omega), q_ovl_old (by simp only [q_ovl, q_ov, List.map, and_true, true_and] <;> omega)⟩ dX6_init_27 ?_)
  refine q_dup B dX6_init_30 rfl ?_
  refine q_callI (rc := 3) (mc := 330) (rs := 90) (ms := 2408) (As := []) B (s_X4_initR q_nS_is rfl (q_nS_cl cl2)) kv_yX4_init ki_yX4_init rfl rfl km_X6_21 rfl (by decide) (Nat.le_of_ble_eq_true rfl) dX6_init_31 (fun v S3 J3 hx => ?_)
  obtain ⟨rfl, hC3, hg3, hV3, hz3⟩ := hx
  have hg3 := q_nS_gr.tr hg3 (Nat.le_refl _)
  have eS3 := hC3.1
  refine ⟨Or.inr ⟨q_ovl_lv (by simp only [q_ovl, q_ov, List.map, and_true, true_and] <;> omega), q_ovl_old (by simp only [q_ovl, q_ov, List.map, and_true, true_and] <;> omega)⟩, ?_⟩
  refine q_putFR B kC_X6 (k := 2) (by decide) rfl kf_X6_22 rfl rfl rfl (hg3.is (by omega) k2.1) dX6_init_34 ?_
  change q_W Γ mX6_init _ _ (m_R S3 d 2 T2.1) _ 37 _ _
  have k3 := m_Dk.n3 k2 e2 hg3 hC3
  have gg3 := (gg2.tr (hg3.le (m := d) (by omega)) (Nat.le_refl d)).tr (m_R_gr (l := d) (k := 2) (x := T2.1) (Nat.le_refl d) (by omega)) (Nat.le_refl d)
  have cl3 := m_R_cl (l := d) (k := 2) (x := T2.1) hC3.2.1 (by omega)
  have e3 : (m_R S3 d 2 T2.1).1 = d + 426 := by show S3.1 = _; omega
  generalize m_R S3 d 2 T2.1 = T3 at k3 gg3 cl3 e3 ⊢
  refine q_aload_n B dX6_init_37 rfl rfl ?_
  refine q_iconst (v := nI 2) B dX6_init_38 rfl ?_
  refine q_less (rc' := 2 + 1) (rs' := 88 + 2) (by decide) (by decide) (q_anew (t := 6) (N := 2) B kl_X6_7 (by simp [q_al]) rfl (by decide) (by decide) (by decide) (q_cl_f cl3) ⟨q_ovl_lv (by simp only [q_ovl, q_ov, List.map, and_true, true_and] <;> omega), q_ovl_old (by simp only [q_ovl, q_ov, List.map, and_true, true_and] <;> omega)⟩ dX6_init_39 ?_)
  refine q_putFR B kC_X6 (k := 3) (by decide) rfl kf_X6_26 rfl rfl rfl (q_nS_gr.is (by omega) k3.1) dX6_init_42 ?_
  change q_W Γ mX6_init _ _ (m_S2 T3 (.inr (6, 2)) d 3) _ 45 _ _
  have k4 := m_Dk.n4 k3 e3
  have gg4 := gg3.tr (m_S2_gr (S := T3) (kd := .inr (6, 2)) (k0 := 3) (Nat.le_refl d) (by omega)) (Nat.le_refl d)
  have cl4 := m_S2_cl (kd := .inr (6, 2)) (k0 := 3) cl3 (l0 := d) (by omega)
  have e4 : (m_S2 T3 (.inr (6, 2)) d 3).1 = d + 427 := by show T3.1 + 1 = _; omega
  have f4 : ∀ l, l < d + 426 → q_nI J3 T3.1 l = J3 l := fun l hl => q_nI_ne (by omega)
  generalize m_S2 T3 (.inr (6, 2)) d 3 = T4 at k4 gg4 cl4 e4 ⊢
  generalize q_nI J3 T3.1 = J4 at f4 ⊢
  refine q_aload_n B dX6_init_45 rfl rfl ?_
  have eN4 : (q_nS T4 (.inl 2)).1 = T4.1 + 1 := rfl
  refine q_less (rc' := 1 + 1) (rs' := 80 + 8) (by omega) (by omega) (q_new B kC_X2 kl_X6_30 k1_X2 k0_X2 (by decide +kernel) (q_cl_f cl4) ⟨q_ovl_lv (by simp only [q_ovl, q_ov, List.map, and_true, true_and] <;> omega), q_ovl_old (by simp only [q_ovl, q_ov, List.map, and_true, true_and] <;> omega)⟩ dX6_init_46 ?_)
  refine q_dup B dX6_init_49 rfl ?_
  refine q_callIN (rc := 0) (mc := 1) (rs := 0) (ms := 80) (As := []) B (s_X2_initR q_nS_is rfl (q_nS_cl cl4)) kv_yX2_init ki_yX2_init rfl rfl kn_X6_32 rfl (by decide) (Nat.le_of_ble_eq_true rfl) dX6_init_50 (fun v S5 J5 hx => ?_)
  obtain ⟨rfl, rfl, hz5, hV5⟩ := hx
  obtain ⟨hC5, hg5, eS5, cl5⟩ := m_Pad cl4
  refine ⟨Or.inr ⟨q_ovl_lv (by simp only [q_ovl, q_ov, List.map, and_true, true_and] <;> omega), q_ovl_old (by simp only [q_ovl, q_ov, List.map, and_true, true_and] <;> omega)⟩, ?_⟩
  generalize m_S2 (q_nS T4 (.inl 2)) (.inr (2, 80)) T4.1 7 = S5 at hC5 hg5 eS5 cl5 ⊢
  refine q_putFR B kC_X6 (k := 4) (by decide) rfl kf_X6_33 rfl rfl rfl (hg5.is (by omega) k4.1) dX6_init_53 ?_
  change q_W Γ mX6_init _ _ (m_R S5 d 4 T4.1) _ 56 _ _
  obtain ⟨hOk, hNo⟩ := m_Dk.n5 k4 e4 hg5 (by omega) hC5 (by omega)
  have gg5 := (gg4.tr (hg5.le (m := d) (by omega)) (Nat.le_refl d)).tr (m_R_gr (l := d) (k := 4) (x := T4.1) (Nat.le_refl d) (by omega)) (Nat.le_refl d)
  have f5 : ∀ l, l < d + 426 → J5 l = J3 l := fun l hl => ((hV5 l (by omega)).trans (q_nI_ne (by omega))).trans (f4 l hl)
  have f3 : ∀ l, l < d + 95 → J3 l = J2 l := fun l hl => (hV3 l (by omega)).trans (q_nI_ne (by omega))
  have f2 : ∀ l, l < d + 48 → J2 l = J1 l := fun l hl => (hV2.2.2 l (by omega)).trans (q_nI_ne (by omega))
  have f1 : ∀ l, l < d + 1 → J1 l = I l := fun l hl => (hV1.2.2 l (by omega)).trans (q_nI_ne (by omega))
  have hr1 := hV1.rs
  rw [hb] at hr1
  have hr5 : Rs (d + 1) J5 a_new := hr1.loc (fun l a b => ((f5 l (by omega)).trans (f3 l (by omega))).trans (f2 l (by omega)))
  have hz3b : J5 (d + 95) 0 = 0 ∧ J5 (d + 95) 1 = 0 := by rw [f5 _ (by omega), ← e2]; exact hz3
  have hz5b : J5 (d + 427) 0 = 0 := by rw [← e4]; exact hz5
  exact q_vret BM rfl dX6_init_56 ⟨rfl, hOk, (show S5.1 = _ by omega), m_R_cl cl5 (by omega), gg5, hNo, hr5, hz3b, hz5b, fun l hl => (((f5 l (by omega)).trans (f3 l (by omega))).trans (f2 l (by omega))).trans (f1 l (by omega))⟩
set_option maxRecDepth 100000 in
set_option maxHeartbeats 4000000 in
theorem s_X7_init {Sh : q_Sh} {I : q_Mem} {o : Nat} (hX : q_is Sh o 7) (hb : Sh.1 = o + 1) (hcl : q_cl Sh) (hz : ∀ k, I o k = 0) : q_Call mX7_init 1 7 2992 [.ref o] Sh I (fun v S J => v = none ∧ mOk S o ∧ S.1 = o + 8 ∧ q_cl S ∧ q_gr o Sh S ∧ J (o + 1) = a_new ∧ (J o 0 = 0 ∧ J o 4 = 0 ∧ J o 8 = 0) ∧ (∀ c, J (o + 5) c = 0) ∧ ∀ l, l < o → J l = I l) := by
  refine q_call_of (by decide) (Nat.le_of_ble_eq_true rfl) fun Γ BM => ?_
  have B := BM.1
  show q_W Γ mX7_init 7 2992 Sh (I) 0 [(0, .ref o)] []
  have h1 : m_Mo o 1 Sh := ⟨hb, hcl, hX, fun j j0 hj => absurd hj (by omega)⟩
  have g1 : q_gr o Sh Sh := q_gr.rf (by omega)
  have v1 : (∀ l, l < o → I l = I l) ∧ (∀ k, I o k = 0) ∧ ∀ l, l < 1 → 0 < l → I (o + l) = fun _ => 0 := ⟨fun _ _ => rfl, hz, fun l a b => absurd b (by omega)⟩
  have e1 := hb
  refine q_aload_n B dX7_init_0 rfl rfl ?_
  refine q_objInit B km_X7_1 ki_objectInit kc_objectInit (by decide) (Nat.le_of_ble_eq_true rfl) dX7_init_1 ?_
  refine q_aload_n B dX7_init_4 rfl rfl ?_
  refine q_sipush (v := nI 267) B dX7_init_5 rfl ?_
  refine q_less (rc' := 6 + 1) (rs' := 2725 + 267) (by decide) (by decide) (q_newa (atype := .int) (ty := .int) (t := 0) (N := 267) B rfl rfl (by decide) rfl ka_int (by decide) (by decide) (by decide) (q_cl_f h1.2.1) ⟨q_ovl_lv (by simp only [q_ovl, q_ov, List.map, and_true, true_and] <;> omega), q_ovl_old (by simp only [q_ovl, q_ov, List.map, and_true, true_and] <;> omega)⟩ dX7_init_8 ?_)
  refine q_putFR B kC_X7 (k := 1) (by decide) rfl kf_X7_7 rfl rfl rfl (q_nS_gr.is (by omega) hX) dX7_init_10 ?_
  change q_W Γ mX7_init _ _ (m_S2 Sh (m_mk 1) o (m_mf 1)) _ 13 _ _
  have h2 := h1.s (by decide) (by decide)
  have g2 := g1.tr (m_S2_gr (S := Sh) (kd := m_mk 1) (k0 := m_mf 1) (Nat.le_refl o) (by omega)) (Nat.le_refl o)
  have v2 : (∀ l, l < o → q_nI I Sh.1 l = I l) ∧ (∀ k, q_nI I Sh.1 o k = 0) ∧ ∀ l, l < 2 → 0 < l → q_nI I Sh.1 (o + l) = fun _ => 0 := ⟨fun l hl => (q_nI_ne (by omega)).trans (v1.1 l hl), fun k => by rw [q_nI_ne (by omega)]; exact v1.2.1 k, fun l a b => by
    by_cases q : l = 1
    · subst q
      funext k
      simp [q_nI, e1]
    · rw [q_nI_ne (by omega)]
      exact v1.2.2 l (by omega) b⟩
  generalize m_S2 Sh (m_mk 1) o (m_mf 1) = S2 at h2 g2 ⊢
  generalize q_nI I Sh.1 = J2 at v2 ⊢
  have e2 := h2.1
  have hX := h2.2.2.1
  refine q_aload_n B dX7_init_13 rfl rfl ?_
  refine q_sipush (v := nI 267) B dX7_init_14 rfl ?_
  refine q_less (rc' := 5 + 1) (rs' := 2458 + 267) (by decide) (by decide) (q_newa (atype := .int) (ty := .int) (t := 0) (N := 267) B rfl rfl (by decide) rfl ka_int (by decide) (by decide) (by decide) (q_cl_f h2.2.1) ⟨q_ovl_lv (by simp only [q_ovl, q_ov, List.map, and_true, true_and] <;> omega), q_ovl_old (by simp only [q_ovl, q_ov, List.map, and_true, true_and] <;> omega)⟩ dX7_init_17 ?_)
  refine q_putFR B kC_X7 (k := 2) (by decide) rfl kf_X7_13 rfl rfl rfl (q_nS_gr.is (by omega) hX) dX7_init_19 ?_
  change q_W Γ mX7_init _ _ (m_S2 S2 (m_mk 2) o (m_mf 2)) _ 22 _ _
  have h3 := h2.s (by decide) (by decide)
  have g3 := g2.tr (m_S2_gr (S := S2) (kd := m_mk 2) (k0 := m_mf 2) (Nat.le_refl o) (by omega)) (Nat.le_refl o)
  have v3 : (∀ l, l < o → q_nI J2 S2.1 l = I l) ∧ (∀ k, q_nI J2 S2.1 o k = 0) ∧ ∀ l, l < 3 → 0 < l → q_nI J2 S2.1 (o + l) = fun _ => 0 := ⟨fun l hl => (q_nI_ne (by omega)).trans (v2.1 l hl), fun k => by rw [q_nI_ne (by omega)]; exact v2.2.1 k, fun l a b => by
    by_cases q : l = 2
    · subst q
      funext k
      simp [q_nI, e2]
    · rw [q_nI_ne (by omega)]
      exact v2.2.2 l (by omega) b⟩
  generalize m_S2 S2 (m_mk 2) o (m_mf 2) = S3 at h3 g3 ⊢
  generalize q_nI J2 S2.1 = J3 at v3 ⊢
  have e3 := h3.1
  have hX := h3.2.2.1
  refine q_aload_n B dX7_init_22 rfl rfl ?_
  refine q_sipush (v := nI 1602) B dX7_init_23 rfl ?_
  refine q_less (rc' := 4 + 1) (rs' := 856 + 1602) (by decide) (by decide) (q_newa (atype := .int) (ty := .int) (t := 0) (N := 1602) B rfl rfl (by decide) rfl ka_int (by decide) (by decide) (by decide) (q_cl_f h3.2.1) ⟨q_ovl_lv (by simp only [q_ovl, q_ov, List.map, and_true, true_and] <;> omega), q_ovl_old (by simp only [q_ovl, q_ov, List.map, and_true, true_and] <;> omega)⟩ dX7_init_26 ?_)
  refine q_putFR B kC_X7 (k := 3) (by decide) rfl kf_X7_16 rfl rfl rfl (q_nS_gr.is (by omega) hX) dX7_init_28 ?_
  change q_W Γ mX7_init _ _ (m_S2 S3 (m_mk 3) o (m_mf 3)) _ 31 _ _
  have h4 := h3.s (by decide) (by decide)
  have g4 := g3.tr (m_S2_gr (S := S3) (kd := m_mk 3) (k0 := m_mf 3) (Nat.le_refl o) (by omega)) (Nat.le_refl o)
  have v4 : (∀ l, l < o → q_nI J3 S3.1 l = I l) ∧ (∀ k, q_nI J3 S3.1 o k = 0) ∧ ∀ l, l < 4 → 0 < l → q_nI J3 S3.1 (o + l) = fun _ => 0 := ⟨fun l hl => (q_nI_ne (by omega)).trans (v3.1 l hl), fun k => by rw [q_nI_ne (by omega)]; exact v3.2.1 k, fun l a b => by
    by_cases q : l = 3
    · subst q
      funext k
      simp [q_nI, e3]
    · rw [q_nI_ne (by omega)]
      exact v3.2.2 l (by omega) b⟩
  generalize m_S2 S3 (m_mk 3) o (m_mf 3) = S4 at h4 g4 ⊢
  generalize q_nI J3 S3.1 = J4 at v4 ⊢
  have e4 := h4.1
  have hX := h4.2.2.1
  refine q_aload_n B dX7_init_31 rfl rfl ?_
  refine q_sipush (v := nI 534) B dX7_init_32 rfl ?_
  refine q_less (rc' := 3 + 1) (rs' := 322 + 534) (by decide) (by decide) (q_newa (atype := .int) (ty := .int) (t := 0) (N := 534) B rfl rfl (by decide) rfl ka_int (by decide) (by decide) (by decide) (q_cl_f h4.2.1) ⟨q_ovl_lv (by simp only [q_ovl, q_ov, List.map, and_true, true_and] <;> omega), q_ovl_old (by simp only [q_ovl, q_ov, List.map, and_true, true_and] <;> omega)⟩ dX7_init_35 ?_)
  refine q_putFR B kC_X7 (k := 5) (by decide) rfl kf_X7_19 rfl rfl rfl (q_nS_gr.is (by omega) hX) dX7_init_37 ?_
  change q_W Γ mX7_init _ _ (m_S2 S4 (m_mk 4) o (m_mf 4)) _ 40 _ _
  have h5 := h4.s (by decide) (by decide)
  have g5 := g4.tr (m_S2_gr (S := S4) (kd := m_mk 4) (k0 := m_mf 4) (Nat.le_refl o) (by omega)) (Nat.le_refl o)
  have v5 : (∀ l, l < o → q_nI J4 S4.1 l = I l) ∧ (∀ k, q_nI J4 S4.1 o k = 0) ∧ ∀ l, l < 5 → 0 < l → q_nI J4 S4.1 (o + l) = fun _ => 0 := ⟨fun l hl => (q_nI_ne (by omega)).trans (v4.1 l hl), fun k => by rw [q_nI_ne (by omega)]; exact v4.2.1 k, fun l a b => by
    by_cases q : l = 4
    · subst q
      funext k
      simp [q_nI, e4]
    · rw [q_nI_ne (by omega)]
      exact v4.2.2 l (by omega) b⟩
  generalize m_S2 S4 (m_mk 4) o (m_mf 4) = S5 at h5 g5 ⊢
  generalize q_nI J4 S4.1 = J5 at v5 ⊢
  have e5 := h5.1
  have hX := h5.2.2.1
  refine q_aload_n B dX7_init_40 rfl rfl ?_
  refine q_iconst (v := nI 2) B dX7_init_41 rfl ?_
  refine q_less (rc' := 2 + 1) (rs' := 320 + 2) (by decide) (by decide) (q_newa (atype := .boolean) (ty := .boolean) (t := 1) (N := 2) B rfl rfl (by decide) rfl ka_boolean (by decide) (by decide) (by decide) (q_cl_f h5.2.1) ⟨q_ovl_lv (by simp only [q_ovl, q_ov, List.map, and_true, true_and] <;> omega), q_ovl_old (by simp only [q_ovl, q_ov, List.map, and_true, true_and] <;> omega)⟩ dX7_init_42 ?_)
  refine q_putFR B kC_X7 (k := 6) (by decide) rfl kf_X7_22 rfl rfl rfl (q_nS_gr.is (by omega) hX) dX7_init_44 ?_
  change q_W Γ mX7_init _ _ (m_S2 S5 (m_mk 5) o (m_mf 5)) _ 47 _ _
  have h6 := h5.s (by decide) (by decide)
  have g6 := g5.tr (m_S2_gr (S := S5) (kd := m_mk 5) (k0 := m_mf 5) (Nat.le_refl o) (by omega)) (Nat.le_refl o)
  have v6 : (∀ l, l < o → q_nI J5 S5.1 l = I l) ∧ (∀ k, q_nI J5 S5.1 o k = 0) ∧ ∀ l, l < 6 → 0 < l → q_nI J5 S5.1 (o + l) = fun _ => 0 := ⟨fun l hl => (q_nI_ne (by omega)).trans (v5.1 l hl), fun k => by rw [q_nI_ne (by omega)]; exact v5.2.1 k, fun l a b => by
    by_cases q : l = 5
    · subst q
      funext k
      simp [q_nI, e5]
    · rw [q_nI_ne (by omega)]
      exact v5.2.2 l (by omega) b⟩
  generalize m_S2 S5 (m_mk 5) o (m_mf 5) = S6 at h6 g6 ⊢
  generalize q_nI J5 S5.1 = J6 at v6 ⊢
  have e6 := h6.1
  have hX := h6.2.2.1
  refine q_aload_n B dX7_init_47 rfl rfl ?_
  refine q_bipush (v := nI 80) B dX7_init_48 rfl ?_
  refine q_less (rc' := 1 + 1) (rs' := 240 + 80) (by decide) (by decide) (q_newa (atype := .int) (ty := .int) (t := 0) (N := 80) B rfl rfl (by decide) rfl ka_int (by decide) (by decide) (by decide) (q_cl_f h6.2.1) ⟨q_ovl_lv (by simp only [q_ovl, q_ov, List.map, and_true, true_and] <;> omega), q_ovl_old (by simp only [q_ovl, q_ov, List.map, and_true, true_and] <;> omega)⟩ dX7_init_50 ?_)
  refine q_putFR B kC_X7 (k := 7) (by decide) rfl kf_X7_26 rfl rfl rfl (q_nS_gr.is (by omega) hX) dX7_init_52 ?_
  change q_W Γ mX7_init _ _ (m_S2 S6 (m_mk 6) o (m_mf 6)) _ 55 _ _
  have h7 := h6.s (by decide) (by decide)
  have g7 := g6.tr (m_S2_gr (S := S6) (kd := m_mk 6) (k0 := m_mf 6) (Nat.le_refl o) (by omega)) (Nat.le_refl o)
  have v7 : (∀ l, l < o → q_nI J6 S6.1 l = I l) ∧ (∀ k, q_nI J6 S6.1 o k = 0) ∧ ∀ l, l < 7 → 0 < l → q_nI J6 S6.1 (o + l) = fun _ => 0 := ⟨fun l hl => (q_nI_ne (by omega)).trans (v6.1 l hl), fun k => by rw [q_nI_ne (by omega)]; exact v6.2.1 k, fun l a b => by
    by_cases q : l = 6
    · subst q
      funext k
      simp [q_nI, e6]
    · rw [q_nI_ne (by omega)]
      exact v6.2.2 l (by omega) b⟩
  generalize m_S2 S6 (m_mk 6) o (m_mf 6) = S7 at h7 g7 ⊢
  generalize q_nI J6 S6.1 = J7 at v7 ⊢
  have e7 := h7.1
  have hX := h7.2.2.1
  refine q_aload_n B dX7_init_55 rfl rfl ?_
  refine q_sipush (v := nI 240) B dX7_init_56 rfl ?_
  refine q_less (rc' := 0 + 1) (rs' := 0 + 240) (by decide) (by decide) (q_newa (atype := .int) (ty := .int) (t := 0) (N := 240) B rfl rfl (by decide) rfl ka_int (by decide) (by decide) (by decide) (q_cl_f h7.2.1) ⟨q_ovl_lv (by simp only [q_ovl, q_ov, List.map, and_true, true_and] <;> omega), q_ovl_old (by simp only [q_ovl, q_ov, List.map, and_true, true_and] <;> omega)⟩ dX7_init_59 ?_)
  refine q_putFR B kC_X7 (k := 11) (by decide) rfl kf_X7_29 rfl rfl rfl (q_nS_gr.is (by omega) hX) dX7_init_61 ?_
  change q_W Γ mX7_init _ _ (m_S2 S7 (m_mk 7) o (m_mf 7)) _ 64 _ _
  have h8 := h7.s (by decide) (by decide)
  have g8 := g7.tr (m_S2_gr (S := S7) (kd := m_mk 7) (k0 := m_mf 7) (Nat.le_refl o) (by omega)) (Nat.le_refl o)
  have v8 : (∀ l, l < o → q_nI J7 S7.1 l = I l) ∧ (∀ k, q_nI J7 S7.1 o k = 0) ∧ ∀ l, l < 8 → 0 < l → q_nI J7 S7.1 (o + l) = fun _ => 0 := ⟨fun l hl => (q_nI_ne (by omega)).trans (v7.1 l hl), fun k => by rw [q_nI_ne (by omega)]; exact v7.2.1 k, fun l a b => by
    by_cases q : l = 7
    · subst q
      funext k
      simp [q_nI, e7]
    · rw [q_nI_ne (by omega)]
      exact v7.2.2 l (by omega) b⟩
  generalize m_S2 S7 (m_mk 7) o (m_mf 7) = S8 at h8 g8 ⊢
  generalize q_nI J7 S7.1 = J8 at v8 ⊢
  have e8 := h8.1
  have hX := h8.2.2.1
  refine q_aload_n B dX7_init_64 rfl rfl ?_
  refine q_iconst (v := 0) B dX7_init_65 rfl ?_
  refine q_putSame B kC_X7 (k := 0) (by decide) rfl kf_X7_32 rfl rfl rfl hX (v8.2.1 0) dX7_init_66 ?_
  have hm := h8.ok
  have w1 := v8.2.2 1 (by decide) (by decide)
  have w5 := v8.2.2 5 (by decide) (by decide)
  refine q_iconst (v := nI 0) B dX7_init_69 rfl ?_
  refine q_istore_n B dX7_init_70 rfl (Nat.le_of_ble_eq_true rfl) rfl ?_
  have hl_71 : ∀ (n i : Nat) (J : q_Mem), i + n = 8 → ((∀ l, l < o → J l = I l) ∧ (∀ k, J o k = 0) ∧ J (o + 1) = a_nw i ∧ ∀ c, J (o + 5) c = 0) → q_W Γ mX7_init 0 0 S8 J 71 [(0, .ref o), (1, .int (nI i))] [] := by
    intro n
    induction n with
    | zero =>
      intro i J hin hinv
      have hi : i = 8 := by omega
      subst hi
      refine q_iload_n B dX7_init_71 rfl rfl ?_
      refine q_bipush (v := nI 8) B dX7_init_72 rfl ?_
      refine q_icmp_ge (tgt := 92) B dX7_init_74 (by decide) (fun _ => ?_) (fun h => absurd (q_le (Nat.le_refl 8) (by decide)) h)
      exact q_vret BM rfl dX7_init_92 ⟨rfl, hm, h8.1, h8.2.1, g8, hinv.2.2.1, ⟨hinv.2.1 0, hinv.2.1 4, hinv.2.1 8⟩, hinv.2.2.2, hinv.1⟩
    | succ n ih =>
      intro i J hin hinv
      have hiN : i < 8 := by omega
      obtain ⟨q1, q2, q3, q4⟩ := hinv
      refine q_iload_n B dX7_init_71 rfl rfl ?_
      refine q_bipush (v := nI 8) B dX7_init_72 rfl ?_
      refine q_icmp_ge (tgt := 92) B dX7_init_74 (by decide) (fun h => absurd h (q_nle hiN (by decide))) (fun _ => ?_)
      refine q_aload_n B dX7_init_77 rfl rfl ?_
      refine q_getR B kC_X7 (k := 1) (by decide) rfl kf_X7_7 hX (mR_s hm) dX7_init_78 ?_
      refine q_iconst (v := nI 3) B dX7_init_81 rfl ?_
      refine q_iload_n B dX7_init_82 rfl rfl ?_
      refine q_iadd B dX7_init_83 ?_
      refine q_iconst (v := 1) B dX7_init_84 rfl ?_
      refine q_iast (n := 3 + i) B (mA_s hm) (nI_add 3 i) (by omega) (by decide) dX7_init_85 ?_
      refine q_iinc2 (y := nI (i + 1)) B dX7_init_86 rfl (q_inc1 _) (Nat.le_of_ble_eq_true rfl) rfl ?_
      refine q_goto (tgt := 71) B dX7_init_89 (by decide) ?_
      exact q_tk (ih (i + 1) (q_setA J (o + 1) (upd (J (o + 1)) (3 + i) 1)) (by omega) ⟨fun l hl => (q_setA_ne (by omega)).trans (q1 l hl), fun k => by rw [q_setA_ne (by omega)]; exact q2 k, by rw [q_setA_at, q3]; exact a_nw_s i, fun c => by rw [q_setA_ne (by omega)]; exact q4 c⟩) rfl (q_ac rfl (q_ac rfl q_an))
  exact q_tk (hl_71 8 0 J8 (by omega) ⟨v8.1, v8.2.1, w1.trans a_nw_0, fun c => congrFun w5 c⟩) rfl (q_ac rfl (q_ac rfl q_an))
