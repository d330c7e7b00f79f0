/-- a ring of Cafes, i of them made -/
def m_Pf (p i : Nat) (S : q_Sh) : Prop := S.1 = p + 2 + 47 * i ∧ q_cl S ∧ (q_is S p 4 ∧ S.2.2 p 2 = some (p + 1) ∧ q_ar S (p + 1) 6 7) ∧ ∀ j, j < i → S.2.2 (p + 1) j = some (p + 2 + 47 * j) ∧ cOk S (p + 2 + 47 * j)
theorem m_Pf.s {p i : Nat} {S S2 : q_Sh} (h : m_Pf p i S) (hg : q_gr S.1 S S2) (hC : m_Cf S.1 47 S2) : m_Pf p (i + 1) (m_R S2 (p + 1) i S.1) := by
  obtain ⟨h1, h2, ⟨h3, h4, h5⟩, h6⟩ := h
  have hS2 := hC.1
  have g : q_gx S.1 (p + 1) S (m_R S2 (p + 1) i S.1) := (hg.x (x := p + 1)).tr (m_R_gx.le (by omega))
  refine ⟨by show S2.1 = _; omega, m_R_cl hC.2.1 (by omega), ⟨g.is (by omega) h3, g.rf (by omega) (by omega) h4, g.ar (by omega) h5⟩, fun j hj => ?_⟩
  by_cases q : j = i
  · subst q
    rw [m_R_at, ← h1]
    exact ⟨rfl, hC.ok.gx m_R_gx (by omega) (by omega)⟩
  · obtain ⟨h7, h8⟩ := h6 j (by omega)
    exact ⟨(m_R_ne (by omega)).trans (hg.rf2 (by omega) h7), h8.gx g (by omega) (by omega)⟩
theorem m_Pf.ok {p : Nat} {S : q_Sh} (h : m_Pf p 7 S) : pOk S p := ⟨h.2.2.1.1, h.2.2.1.2, fun j hj => (h.2.2.2 j hj).1, fun j hj => (h.2.2.2 j hj).2⟩
/-- the fields of the whole, k of them set -/
def m_Dk (d k : Nat) (S : q_Sh) : Prop := q_is S d 6 ∧ (0 < k → S.2.2 d 0 = some (d + 1) ∧ cOk S (d + 1)) ∧ (1 < k → S.2.2 d 1 = some (d + 48) ∧ cOk S (d + 48)) ∧ (2 < k → S.2.2 d 2 = some (d + 95) ∧ pOk S (d + 95)) ∧ (3 < k → S.2.2 d 3 = some (d + 426) ∧ q_ar S (d + 426) 6 2 ∧ ∀ c, S.2.2 (d + 426) c = none)
def m_sz (k : Nat) : Nat := if k = 0 then 1 else if k = 1 then 48 else if k = 2 then 95 else if k = 3 then 426 else 427
theorem m_Dk.mv {d k n : Nat} {S T : q_Sh} (h : m_Dk d k S) (hs : d + m_sz k ≤ n) (g : q_gx n d S T) (hr : ∀ j, j < k → T.2.2 d j = S.2.2 d j) : m_Dk d k T := by
  obtain ⟨h1, h2, h3, h4, h5⟩ := h
  unfold m_sz at hs
  have e : 0 < m_sz k := by unfold m_sz; (repeat' split) <;> omega
  have hn : d < n := by revert hs; (repeat' split) <;> omega
  refine ⟨g.is hn h1, fun q => ?_, fun q => ?_, fun q => ?_, fun q => ?_⟩
  · exact ⟨(hr 0 q).trans (h2 q).1, (h2 q).2.gx g (by revert hs; (repeat' split) <;> omega) (by omega)⟩
  · exact ⟨(hr 1 q).trans (h3 q).1, (h3 q).2.gx g (by revert hs; (repeat' split) <;> omega) (by omega)⟩
  · exact ⟨(hr 2 q).trans (h4 q).1, (h4 q).2.gx g (by revert hs; (repeat' split) <;> omega) (by omega)⟩
  · have hn2 : d + 426 < n := by revert hs; (repeat' split) <;> omega
    exact ⟨(hr 3 q).trans (h5 q).1, g.ar hn2 (h5 q).2.1, fun c => g.rf hn2 (by omega) ((h5 q).2.2 c)⟩
theorem m_Dk.st {d k x : Nat} {S S2 : q_Sh} (h : m_Dk d k S) (hs : S.1 = d + m_sz k) (hg : q_gr S.1 S S2) : m_Dk d k (m_R S2 d k x) := by
  have e : 0 < m_sz k := by unfold m_sz; (repeat' split) <;> omega
  exact h.mv (n := S.1) (by omega) ((hg.x (x := d)).tr (m_R_gx.le hg.1.2)) (fun j hj => (m_R_ne (by omega)).trans (hg.rf2 (by omega) rfl))
theorem m_Dk.n1 {d : Nat} {S S2 : q_Sh} (h : m_Dk d 0 S) (hs : S.1 = d + 1) (hg : q_gr S.1 S S2) (hC : m_Cf S.1 47 S2) : m_Dk d 1 (m_R S2 d 0 S.1) := by
  obtain ⟨h1, -⟩ := h.st hs hg (x := S.1)
  have e := hC.1
  refine ⟨h1, fun _ => ⟨m_R_at.trans (by rw [hs]), ?_⟩, fun q => absurd q (by decide), fun q => absurd q (by decide), fun q => absurd q (by decide)⟩
  rw [← hs]
  exact hC.ok.gx m_R_gx (by omega) (by omega)
theorem m_Dk.n2 {d : Nat} {S S2 : q_Sh} (h : m_Dk d 1 S) (hs : S.1 = d + 48) (hg : q_gr S.1 S S2) (hC : m_Cf S.1 47 S2) : m_Dk d 2 (m_R S2 d 1 S.1) := by
  obtain ⟨h1, h2, -⟩ := h.st hs hg (x := S.1)
  have e := hC.1
  refine ⟨h1, fun _ => h2 (by decide), fun _ => ⟨m_R_at.trans (by rw [hs]), ?_⟩, fun q => absurd q (by decide), fun q => absurd q (by decide)⟩
  rw [← hs]
  exact hC.ok.gx m_R_gx (by omega) (by omega)
theorem m_Dk.n3 {d : Nat} {S S2 : q_Sh} (h : m_Dk d 2 S) (hs : S.1 = d + 95) (hg : q_gr S.1 S S2) (hC : m_Pf S.1 7 S2) : m_Dk d 3 (m_R S2 d 2 S.1) := by
  obtain ⟨h1, h2, h3, -⟩ := h.st hs hg (x := S.1)
  have e := hC.1
  refine ⟨h1, fun _ => h2 (by decide), fun _ => h3 (by decide), fun _ => ⟨m_R_at.trans (by rw [hs]), ?_⟩, fun q => absurd q (by decide)⟩
  rw [← hs]
  exact hC.ok.gx m_R_gx (by omega) (by omega)
theorem m_Dk.n4 {d : Nat} {S : q_Sh} (h : m_Dk d 3 S) (hs : S.1 = d + 426) : m_Dk d 4 (m_S2 S (.inr (6, 2)) d 3) := by
  obtain ⟨h1, h2, h3, h4, -⟩ := h.st hs (q_nS_gr (kd := .inr (6, 2))) (x := S.1)
  refine ⟨h1, fun _ => h2 (by decide), fun _ => h3 (by decide), fun _ => h4 (by decide), fun _ => ⟨m_S2_at.trans (by rw [hs]), ?_, fun c => ?_⟩⟩
  · rw [← hs]
    exact ⟨Nat.lt_succ_self _, if_pos rfl⟩
  · rw [← hs]
    exact m_S2_no (by omega)
theorem m_Dk.n5 {d : Nat} {S S2 : q_Sh} (h : m_Dk d 4 S) (hs : S.1 = d + 427) (hg : q_gr S.1 S S2) (hS2 : S.1 < S2.1) (hC : gOk S2 S.1) (hC2 : S.1 + 2 ≤ S2.1) : dOk (m_R S2 d 4 S.1) d ∧ ∀ c, (m_R S2 d 4 S.1).2.2 (d + 426) c = none := by
  obtain ⟨h1, h2, h3, h4, h5⟩ := h.st hs hg (x := S.1)
  obtain ⟨h6, h7, h8⟩ := h5 (by decide)
  obtain ⟨c1, c2, c3⟩ := hC
  rw [hs] at c1 c2 c3
  have g := m_R_gx (S := S2) (l := d) (k := 4) (x := S.1)
  exact ⟨⟨h1, h2 (by decide), h3 (by decide), h4 (by decide), ⟨h6, h7⟩, ⟨m_R_at.trans (by rw [hs]), g.is (by omega) c1⟩, g.rf (by omega) (by omega) c2, g.ar (by omega) c3⟩, h8⟩
set_option maxRecDepth 100000 in
set_option maxHeartbeats 4000000 in
theorem s_X2_init {Sh : q_Sh} {I : q_Mem} {q : Nat} {ob : a_A} (hX : q_is Sh q 2) (hb : Sh.1 = q + 1) (hcl : q_cl Sh) : q_Call mX2_init 1 1 80 [.ref q] Sh (q_setA I q ob) (fun v S J => v = none ∧ S = m_S2 Sh (.inr (2, 80)) q 7 ∧ J q 0 = 0 ∧ ∀ l, l < q → J l = I l) := by
  refine q_call_of (by decide) (Nat.le_of_ble_eq_true rfl) fun Γ BM => ?_
  have B := BM.1
  show q_W Γ mX2_init 1 80 Sh (q_setA I q ob) 0 [(0, .ref q)] []
  refine q_aload_n B dX2_init_0 rfl rfl ?_
  refine q_objInit B km_X2_3 ki_objectInit kc_objectInit (by decide) (Nat.le_of_ble_eq_true rfl) dX2_init_1 ?_
  refine q_aload_n B dX2_init_4 rfl rfl ?_
  refine q_iconst (v := 0) B dX2_init_5 rfl ?_
  refine q_putIo B kC_X2 (k := 0) (by decide) rfl kf_X2_9 rfl rfl rfl hX rfl dX2_init_6 ?_
  refine q_aload_n B dX2_init_9 rfl rfl ?_
  refine q_iconst (v := 0) B dX2_init_10 rfl ?_
  refine q_putIo B kC_X2 (k := 1) (by decide) rfl kf_X2_15 rfl rfl rfl hX rfl dX2_init_11 ?_
  refine q_aload_n B dX2_init_14 rfl rfl ?_
  refine q_iconst (v := 0) B dX2_init_15 rfl ?_
  refine q_putIo B kC_X2 (k := 2) (by decide) rfl kf_X2_18 rfl rfl rfl hX rfl dX2_init_16 ?_
  refine q_aload_n B dX2_init_19 rfl rfl ?_
  refine q_iconst (v := 0) B dX2_init_20 rfl ?_
  refine q_putIo B kC_X2 (k := 3) (by decide) rfl kf_X2_21 rfl rfl rfl hX rfl dX2_init_21 ?_
  refine q_aload_n B dX2_init_24 rfl rfl ?_
  refine q_iconst (v := 0) B dX2_init_25 rfl ?_
  refine q_putIo B kC_X2 (k := 4) (by decide) rfl kf_X2_24 rfl rfl rfl hX rfl dX2_init_26 ?_
  refine q_aload_n B dX2_init_29 rfl rfl ?_
  refine q_iconst (v := 0) B dX2_init_30 rfl ?_
  refine q_putIo B kC_X2 (k := 5) (by decide) rfl kf_X2_27 rfl rfl rfl hX rfl dX2_init_31 ?_
  refine q_aload_n B dX2_init_34 rfl rfl ?_
  refine q_iconst (v := 0) B dX2_init_35 rfl ?_
  refine q_putIo B kC_X2 (k := 6) (by decide) rfl kf_X2_30 rfl rfl rfl hX rfl dX2_init_36 ?_
  refine q_aload_n B dX2_init_39 rfl rfl ?_
  refine q_bipush (v := nI 80) B dX2_init_40 rfl ?_
  refine q_less (rc' := 0 + 1) (rs' := 0 + 80) (by decide) (by decide) (q_newa (atype := .char) (ty := .char) (t := 2) (N := 80) B rfl rfl (by decide) rfl ka_char (by decide) (by decide) (by decide) (q_cl_f hcl) ⟨q_ovl_lv (by simp only [q_ovl, q_ov, List.map, and_true, true_and] <;> omega), q_ovl_old (by simp only [q_ovl, q_ov, List.map, and_true, true_and] <;> omega)⟩ dX2_init_42 ?_)
  refine q_putFR B kC_X2 (k := 7) (by decide) rfl kf_X2_33 rfl rfl rfl (q_nS_gr.is (by omega) hX) dX2_init_44 ?_
  exact q_vret BM rfl dX2_init_47 ⟨rfl, rfl, by rw [q_nI_ne (by omega), q_setA_at]; rfl, fun l hl => (q_nI_ne (by omega)).trans (q_setA_ne (by omega))⟩
set_option maxRecDepth 100000 in
set_option maxHeartbeats 4000000 in
theorem s_X4_init {Sh : q_Sh} {I : q_Mem} {p : Nat} {ob : a_A} (hX : q_is Sh p 4) (hb : Sh.1 = p + 1) (hcl : q_cl Sh) : q_Call mX4_init 3 330 2408 [.ref p] Sh (q_setA I p ob) (fun v S J => v = none ∧ m_Pf p 7 S ∧ q_gr p Sh S ∧ (∀ l, l < p → J l = I l) ∧ J p 0 = 0 ∧ J p 1 = 0) := by
  refine q_call_of (by decide) (Nat.le_of_ble_eq_true rfl) fun Γ BM => ?_
  have B := BM.1
  show q_W Γ mX4_init 330 2408 Sh (q_setA I p ob) 0 [(0, .ref p)] []
  refine q_aload_n B dX4_init_0 rfl rfl ?_
  refine q_objInit B km_X4_3 ki_objectInit kc_objectInit (by decide) (Nat.le_of_ble_eq_true rfl) dX4_init_1 ?_
  refine q_aload_n B dX4_init_4 rfl rfl ?_
  refine q_iconst (v := 0) B dX4_init_5 rfl ?_
  refine q_putIo B kC_X4 (k := 0) (by decide) rfl kf_X4_9 rfl rfl rfl hX rfl dX4_init_6 ?_
  refine q_aload_n B dX4_init_9 rfl rfl ?_
  refine q_iconst (v := 0) B dX4_init_10 rfl ?_
  refine q_putIo B kC_X4 (k := 1) (by decide) rfl kf_X4_15 rfl rfl rfl hX rfl dX4_init_11 ?_
  refine q_aload_n B dX4_init_14 rfl rfl ?_
  refine q_bipush (v := nI 7) B dX4_init_15 rfl ?_
  refine q_less (rc' := 329 + 1) (rs' := 2401 + 7) (by decide) (by decide) (q_anew (t := 6) (N := 7) B kl_X4_18 (by simp [q_al]) rfl (by decide) (by decide) (by decide) (q_cl_f hcl) ⟨q_ovl_lv (by simp only [q_ovl, q_ov, List.map, and_true, true_and] <;> omega), q_ovl_old (by simp only [q_ovl, q_ov, List.map, and_true, true_and] <;> omega)⟩ dX4_init_17 ?_)
  refine q_putFR B kC_X4 (k := 2) (by decide) rfl kf_X4_20 rfl rfl rfl (q_nS_gr.is (by omega) hX) dX4_init_20 ?_
  change q_W Γ mX4_init _ _ (m_S2 Sh (.inr (6, 7)) p 2) _ 23 _ _
  have h1 : m_Pf p 0 (m_S2 Sh (.inr (6, 7)) p 2) := ⟨by show Sh.1 + 1 = _; omega, m_S2_cl hcl (by omega), ⟨⟨by show p < Sh.1 + 1; omega, (m_S2_kd (by omega)).trans hX.2⟩, m_S2_at.trans (by rw [hb]), by rw [← hb]; exact ⟨Nat.lt_succ_self _, if_pos rfl⟩⟩, fun j hj => absurd hj (Nat.not_lt_zero j)⟩
  have g1 : q_gr p Sh (m_S2 Sh (.inr (6, 7)) p 2) := m_S2_gr (Nat.le_refl p) (by omega)
  have v1 : ∀ l, l < p → q_nI (q_setA I p (upd (upd ob 0 0) 1 0)) Sh.1 l = I l := fun l hl => (q_nI_ne (by omega)).trans (q_setA_ne (by omega))
  have v2 : q_nI (q_setA I p (upd (upd ob 0 0) 1 0)) Sh.1 p 0 = 0 ∧ q_nI (q_setA I p (upd (upd ob 0 0) 1 0)) Sh.1 p 1 = 0 := by rw [q_nI_ne (by omega), q_setA_at]; exact ⟨rfl, rfl⟩
  generalize m_S2 Sh (.inr (6, 7)) p 2 = S1 at h1 g1 ⊢
  generalize q_nI (q_setA I p (upd (upd ob 0 0) 1 0)) Sh.1 = J1 at v1 v2 ⊢
  refine q_iconst (v := nI 0) B dX4_init_23 rfl ?_
  refine q_istore_n B dX4_init_24 rfl (Nat.le_of_ble_eq_true rfl) rfl ?_
  have hl_25 : ∀ (n i : Nat) (S : q_Sh) (J : q_Mem), i + n = 7 → (m_Pf p i S ∧ q_gr p Sh S ∧ (∀ l, l < p → J l = I l) ∧ J p 0 = 0 ∧ J p 1 = 0) → q_W Γ mX4_init (47 * n) (343 * n) S J 25 [(0, .ref p), (1, .int (nI i))] [] := by
    intro n
    induction n with
    | zero =>
      intro i S J hin hinv
      have hi : i = 7 := by omega
      subst hi
      obtain ⟨hC, hg, hv⟩ := hinv
      have hX := hC.2.2.1.1
      refine q_iload_n B dX4_init_25 rfl rfl ?_
      refine q_aload_n B dX4_init_26 rfl rfl ?_
      refine q_getR B kC_X4 (k := 2) (by decide) rfl kf_X4_20 hX hC.2.2.1.2.1 dX4_init_27 ?_
      refine q_alen B hC.2.2.1.2.2 rfl dX4_init_30 ?_
      refine q_icmp_ge (tgt := 53) B dX4_init_31 (by decide) (fun _ => ?_) (fun h => absurd (q_le (Nat.le_refl 7) (by decide)) h)
      exact q_vret BM rfl dX4_init_53 ⟨rfl, hC, hg, hv⟩
    | succ n ih =>
      intro i S J hin hinv
      have hiN : i < 7 := by omega
      obtain ⟨hC, hg, hv⟩ := hinv
      have hX := hC.2.2.1.1
      have eS := hC.1
      have eN : (q_nS S (.inl 0)).1 = S.1 + 1 := rfl
      refine q_iload_n B dX4_init_25 rfl rfl ?_
      refine q_aload_n B dX4_init_26 rfl rfl ?_
      refine q_getR B kC_X4 (k := 2) (by decide) rfl kf_X4_20 hX hC.2.2.1.2.1 dX4_init_27 ?_
      refine q_alen B hC.2.2.1.2.2 rfl dX4_init_30 ?_
      refine q_icmp_ge (tgt := 53) B dX4_init_31 (by decide) (fun h => absurd h (q_nle hiN (by decide))) (fun _ => ?_)
      refine q_aload_n B dX4_init_34 rfl rfl ?_
      refine q_getR B kC_X4 (k := 2) (by decide) rfl kf_X4_20 hX hC.2.2.1.2.1 dX4_init_35 ?_
      refine q_iload_n B dX4_init_38 rfl rfl ?_
      refine q_less (rc' := 47 * n + 46 + 1) (rs' := 343 * n + 337 + 6) (by omega) (by omega) (q_new B kC_X0 kl_X4_18 k1_X0 k0_X0 (by decide +kernel) (q_cl_f hC.2.1) ⟨q_ovl_lv (by simp only [q_ovl, q_ov, List.map, and_true, true_and] <;> omega), q_ovl_old (by simp only [q_ovl, q_ov, List.map, and_true, true_and] <;> omega)⟩ dX4_init_39 ?_)
      refine q_dup B dX4_init_42 rfl ?_
      refine q_callI (rc := 47 * n) (mc := 46) (rs := 343 * n) (ms := 337) (As := []) B (s_X0_initR q_nS_is rfl (q_nS_cl hC.2.1)) kv_yX0_init ki_yX0_init rfl rfl km_X4_24 rfl (by decide) (Nat.le_of_ble_eq_true rfl) dX4_init_43 (fun v S2 J2 hx => ?_)
      obtain ⟨rfl, hC2, hV2, hg2⟩ := hx
      have hg2 := q_nS_gr.tr hg2 (Nat.le_refl _)
      have eS2 := hC2.1
      have hJ2 : ∀ l, l < S.1 → J2 l = J l := fun l hl => (hV2.2.2 l hl).trans (q_nI_ne (by omega))
      refine ⟨Or.inr ⟨q_ovl_lv (by simp only [q_ovl, q_ov, List.map, and_true, true_and] <;> omega), q_ovl_old (by simp only [q_ovl, q_ov, List.map, and_true, true_and] <;> omega)⟩, ?_⟩
      refine q_aastore (r := (RX0, TX0, 6)) B (hg2.ar (by omega) hC.2.2.1.2.2) rfl kC_X0.1 (hC2.is (j := 0) (by decide) rfl) (vp_in_nI (by omega) (by decide)) dX4_init_46 ?_
      rw [nI_clamp (by omega)]
      change q_W Γ mX4_init _ _ (m_R S2 (p + 1) i S.1) _ 47 _ _
      refine q_iinc2 (y := nI (i + 1)) B dX4_init_47 rfl (q_inc1 _) (Nat.le_of_ble_eq_true rfl) rfl ?_
      refine q_goto (tgt := 25) B dX4_init_50 (by decide) ?_
      exact q_tk (ih (i + 1) (m_R S2 (p + 1) i S.1) J2 (by omega) ⟨hC.s hg2 hC2, (hg.tr hg2 (by omega)).tr (m_R_gr (by omega) (by omega)) (Nat.le_refl p), fun l hl => (hJ2 l (by omega)).trans (hv.1 l hl), by rw [hJ2 p (by omega)]; exact hv.2.1, by rw [hJ2 p (by omega)]; exact hv.2.2⟩) rfl (q_ac rfl (q_ac rfl q_an))
  exact q_tk (hl_25 7 0 S1 J1 (by omega) ⟨h1, g1, v1, v2⟩) rfl (q_ac rfl (q_ac rfl q_an))
