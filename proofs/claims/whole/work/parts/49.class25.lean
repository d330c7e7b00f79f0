theorem s_X0_initR {Sh : q_Sh} {I : q_Mem} {b : Nat} (hX : q_is Sh b 0) (hb : Sh.1 = b + 1) (hcl : q_cl Sh) : q_Call mX0_init 2 46 337 [.ref b] Sh I (fun v S J => v = none ∧ m_Cf b 47 S ∧ m_Mv b 47 I J ∧ q_gr b Sh S) := by
  have h := s_X0_init (I := I) (ob := I b) hX hb hcl
  rw [q_setA_self] at h
  exact h
/-- as q_gr, but what the place x refers to -/
def q_gx (n x : Nat) (Sh S : q_Sh) : Prop := (n ≤ Sh.1 ∧ n ≤ S.1) ∧ ∀ l, l < n → S.2.1 l = Sh.2.1 l ∧ (l ≠ x → ∀ k, S.2.2 l k = Sh.2.2 l k)
theorem q_gr.x {n x : Nat} {Sh S : q_Sh} (h : q_gr n Sh S) : q_gx n x Sh S := ⟨h.1, fun l hl => ⟨(h.2 l hl).1, fun _ => (h.2 l hl).2⟩⟩
theorem q_gx.tr {n x : Nat} {S0 S1 S2 : q_Sh} (h : q_gx n x S0 S1) (k : q_gx n x S1 S2) : q_gx n x S0 S2 := ⟨⟨h.1.1, k.1.2⟩, fun l hl => ⟨(k.2 l hl).1.trans (h.2 l hl).1, fun z j => ((k.2 l hl).2 z j).trans ((h.2 l hl).2 z j)⟩⟩
theorem q_gx.le {n m x : Nat} {S0 S1 : q_Sh} (h : q_gx n x S0 S1) (hm : m ≤ n) : q_gx m x S0 S1 := ⟨⟨Nat.le_trans hm h.1.1, Nat.le_trans hm h.1.2⟩, fun l hl => h.2 l (by omega)⟩
theorem q_gx.is {n x l ci : Nat} {Sh S : q_Sh} (h : q_gx n x Sh S) (hl : l < n) (k : q_is Sh l ci) : q_is S l ci := ⟨by have := h.1.2; omega, (h.2 l hl).1.trans k.2⟩
theorem q_gx.ar {n x l t m : Nat} {Sh S : q_Sh} (h : q_gx n x Sh S) (hl : l < n) (k : q_ar Sh l t m) : q_ar S l t m := ⟨by have := h.1.2; omega, (h.2 l hl).1.trans k.2⟩
theorem q_gx.rf {n x l j : Nat} {y : Option Nat} {Sh S : q_Sh} (h : q_gx n x Sh S) (hl : l < n) (hx : l ≠ x) (k : Sh.2.2 l j = y) : S.2.2 l j = y := ((h.2 l hl).2 hx j).trans k
theorem cOk.gx {n x b : Nat} {Sh S : q_Sh} (h : cOk Sh b) (g : q_gx n x Sh S) (hn : b + 47 ≤ n) (hx : x < b ∨ b + 4 ≤ x) : cOk S b := by
  obtain ⟨h1, ⟨h2, h3⟩, ⟨h4, h5⟩, ⟨h6, h7⟩, h8, h9, h10⟩ := h
  exact ⟨g.is (by omega) h1, ⟨g.rf (by omega) (by omega) h2, g.ar (by omega) h3⟩, ⟨g.rf (by omega) (by omega) h4, g.ar (by omega) h5⟩, ⟨g.rf (by omega) (by omega) h6, g.ar (by omega) h7⟩, fun i hi => ⟨g.rf (by omega) (by omega) (h8 i hi).1, g.is (by omega) (h8 i hi).2⟩, fun i hi => ⟨g.rf (by omega) (by omega) (h9 i hi).1, g.is (by omega) (h9 i hi).2⟩, fun i hi => ⟨g.rf (by omega) (by omega) (h10 i hi).1, g.is (by omega) (h10 i hi).2⟩⟩
theorem pOk.gx {n x p : Nat} {Sh S : q_Sh} (h : pOk Sh p) (g : q_gx n x Sh S) (hn : p + 331 ≤ n) (hx : x < p ∨ p + 331 ≤ x) : pOk S p := by
  obtain ⟨h1, ⟨h2, h3⟩, h4, h5⟩ := h
  exact ⟨g.is (by omega) h1, ⟨g.rf (by omega) (by omega) h2, g.ar (by omega) h3⟩, fun j hj => g.rf (by omega) (by omega) (h4 j hj), fun j hj => (h5 j hj).gx g (by omega) (by omega)⟩
theorem dOk.gx {n d : Nat} {Sh S : q_Sh} (h : dOk Sh d) (g : q_gx n (d + 426) Sh S) (hn : d + 429 ≤ n) : dOk S d := by
  obtain ⟨h1, ⟨h2, h3⟩, ⟨h4, h5⟩, ⟨h6, h7⟩, ⟨h8, h9⟩, ⟨h10, h11⟩, h12, h13⟩ := h
  exact ⟨g.is (by omega) h1, ⟨g.rf (by omega) (by omega) h2, h3.gx g (by omega) (by omega)⟩, ⟨g.rf (by omega) (by omega) h4, h5.gx g (by omega) (by omega)⟩, ⟨g.rf (by omega) (by omega) h6, h7.gx g (by omega) (by omega)⟩, ⟨g.rf (by omega) (by omega) h8, g.ar (by omega) h9⟩, ⟨g.rf (by omega) (by omega) h10, g.is (by omega) h11⟩, g.rf (by omega) (by omega) h12, g.ar (by omega) h13⟩
theorem mOk.gx {n x o : Nat} {Sh S : q_Sh} (h : mOk Sh o) (g : q_gx n x Sh S) (hn : o + 8 ≤ n) (hx : x < o) : mOk S o := by
  obtain ⟨h1, ⟨h2, h3⟩, ⟨h4, h5⟩, ⟨h6, h7⟩, ⟨h8, h9⟩, ⟨h10, h11⟩, ⟨h12, h13⟩, h14, h15⟩ := h
  exact ⟨g.is (by omega) h1, ⟨g.rf (by omega) (by omega) h2, g.ar (by omega) h3⟩, ⟨g.rf (by omega) (by omega) h4, g.ar (by omega) h5⟩, ⟨g.rf (by omega) (by omega) h6, g.ar (by omega) h7⟩, ⟨g.rf (by omega) (by omega) h8, g.ar (by omega) h9⟩, ⟨g.rf (by omega) (by omega) h10, g.ar (by omega) h11⟩, ⟨g.rf (by omega) (by omega) h12, g.ar (by omega) h13⟩, g.rf (by omega) (by omega) h14, g.ar (by omega) h15⟩
/-- a reference set -/
def m_R (S : q_Sh) (l k x : Nat) : q_Sh := (S.1, S.2.1, q_upR S.2.2 l k (some x))
theorem m_R_at {S : q_Sh} {l k x : Nat} : (m_R S l k x).2.2 l k = some x := if_pos ⟨rfl, rfl⟩
theorem m_R_ne {S : q_Sh} {l k x m j : Nat} (h : ¬ (m = l ∧ j = k)) : (m_R S l k x).2.2 m j = S.2.2 m j := if_neg h
theorem m_R_gx {S : q_Sh} {l k x : Nat} : q_gx S.1 l S (m_R S l k x) := ⟨⟨Nat.le_refl _, Nat.le_refl _⟩, fun m _ => ⟨rfl, fun h j => m_R_ne (fun z => h z.1)⟩⟩
theorem m_R_gr {S : q_Sh} {l k x n : Nat} (hn : n ≤ l) (h2 : n ≤ S.1) : q_gr n S (m_R S l k x) := ⟨⟨h2, h2⟩, fun m hm => ⟨rfl, fun j => m_R_ne (by omega)⟩⟩
theorem m_R_cl {S : q_Sh} {l k x : Nat} (h : q_cl S) (hx : x < S.1) : q_cl (m_R S l k x) := by
  intro m j y hm e
  by_cases q : m = l ∧ j = k
  · obtain ⟨rfl, rfl⟩ := q
    rw [m_R_at] at e
    cases e
    exact hx
  · rw [m_R_ne q] at e
    exact h m j y hm e
theorem a_lt2 {x : Int32} (h : x < nI 2) : x ≤ nI 1 := by
  have e1 : (nI 1).toInt = 1 := nI_toInt (by decide)
  have e2 : (nI 2).toInt = 2 := nI_toInt (by decide)
  rw [Int32.lt_iff_toInt_lt, e2] at h
  rw [Int32.le_iff_toInt_le, e1]
  omega
theorem dHi {Sh : q_Sh} {d : Nat} (h : dOk Sh d) : d + 429 ≤ Sh.1 := by have := h.2.2.2.2.2.2.2.1; omega
set_option maxRecDepth 100000 in
set_option maxHeartbeats 4000000 in
theorem s_X6_save_no {Sh : q_Sh} {I : q_Mem} {d : Nat} {c : Int32} (hc : dOk Sh d) (h : ¬ (0 ≤ c ∧ c ≤ nI 1)) : q_Rt mX6_save 5 [.ref d, .int c] Sh (I) (some (.int (-2))) (I) := by
  refine q_rt_of (by decide) (Nat.le_of_ble_eq_true rfl) fun Γ BM => ?_
  have B := BM.1
  show q_W Γ mX6_save 0 0 Sh (I) 0 [(0, .ref d), (1, .int c)] []
  refine q_iload_n B dX6_save_0 rfl rfl ?_
  refine q_if_lt (tgt := 13) B dX6_save_1 (by decide) (fun c_1 => ?_) (fun c_1 => ?_)
  · skip
    refine q_bipush (v := -2) B dX6_save_13 rfl ?_
    exact q_iret BM rfl dX6_save_15 ⟨rfl, rfl, rfl⟩
  · skip
    refine q_iload_n B dX6_save_4 rfl rfl ?_
    refine q_aload_n B dX6_save_5 rfl rfl ?_
    refine q_getR B kC_X6 (k := 3) (by decide) rfl kf_X6_26 hc.1 (dsl hc) dX6_save_6 ?_
    refine q_alen B (dSA hc) rfl dX6_save_9 ?_
    refine q_icmp_lt (tgt := 16) B dX6_save_10 (by decide) (fun c_10 => ?_) (fun c_10 => ?_)
    · skip
      exact absurd ⟨Int32.not_lt.mp c_1, a_lt2 c_10⟩ h
      skip
    · skip
      refine q_bipush (v := -2) B dX6_save_13 rfl ?_
      exact q_iret BM rfl dX6_save_15 ⟨rfl, rfl, rfl⟩
set_option maxRecDepth 100000 in
set_option maxHeartbeats 4000000 in
theorem s_X6_restore_no {Sh : q_Sh} {I : q_Mem} {d : Nat} {c : Int32} (hc : dOk Sh d) (h : ¬ (0 ≤ c ∧ c ≤ nI 1)) : q_Rt mX6_restore 5 [.ref d, .int c] Sh (I) (some (.int (-2))) (I) := by
  refine q_rt_of (by decide) (Nat.le_of_ble_eq_true rfl) fun Γ BM => ?_
  have B := BM.1
  show q_W Γ mX6_restore 0 0 Sh (I) 0 [(0, .ref d), (1, .int c)] []
  refine q_iload_n B dX6_restore_0 rfl rfl ?_
  refine q_if_lt (tgt := 13) B dX6_restore_1 (by decide) (fun c_1 => ?_) (fun c_1 => ?_)
  · skip
    refine q_bipush (v := -2) B dX6_restore_13 rfl ?_
    exact q_iret BM rfl dX6_restore_15 ⟨rfl, rfl, rfl⟩
  · skip
    refine q_iload_n B dX6_restore_4 rfl rfl ?_
    refine q_aload_n B dX6_restore_5 rfl rfl ?_
    refine q_getR B kC_X6 (k := 3) (by decide) rfl kf_X6_26 hc.1 (dsl hc) dX6_restore_6 ?_
    refine q_alen B (dSA hc) rfl dX6_restore_9 ?_
    refine q_icmp_lt (tgt := 16) B dX6_restore_10 (by decide) (fun c_10 => ?_) (fun c_10 => ?_)
    · skip
      exact absurd ⟨Int32.not_lt.mp c_1, a_lt2 c_10⟩ h
      skip
    · skip
      refine q_bipush (v := -2) B dX6_restore_13 rfl ?_
      exact q_iret BM rfl dX6_restore_15 ⟨rfl, rfl, rfl⟩
set_option maxRecDepth 100000 in
set_option maxHeartbeats 4000000 in
theorem s_X6_restore_none {Sh : q_Sh} {I : q_Mem} {d : Nat} (hc : dOk Sh d) {c : Nat} (hk : c < 2) (hs : Sh.2.2 (d + 426) c = none) : q_Rt mX6_restore 5 [.ref d, .int (nI c)] Sh (I) (some (.int (-5))) (I) := by
  refine q_rt_of (by decide) (Nat.le_of_ble_eq_true rfl) fun Γ BM => ?_
  have B := BM.1
  show q_W Γ mX6_restore 0 0 Sh (I) 0 [(0, .ref d), (1, .int (nI c))] []
  refine q_iload_n B dX6_restore_0 rfl rfl ?_
  refine q_if_lt (tgt := 13) B dX6_restore_1 (by decide) (fun h => absurd h ((nI_pos (by omega)))) (fun _ => ?_)
  refine q_iload_n B dX6_restore_4 rfl rfl ?_
  refine q_aload_n B dX6_restore_5 rfl rfl ?_
  refine q_getR B kC_X6 (k := 3) (by decide) rfl kf_X6_26 hc.1 (dsl hc) dX6_restore_6 ?_
  refine q_alen B (dSA hc) rfl dX6_restore_9 ?_
  refine q_icmp_lt (tgt := 16) B dX6_restore_10 (by decide) (fun _ => ?_) (fun h => absurd ((q_lt (b := 2) hk (by decide))) h)
  refine q_aload_n B dX6_restore_16 rfl rfl ?_
  refine q_getR B kC_X6 (k := 3) (by decide) rfl kf_X6_26 hc.1 (dsl hc) dX6_restore_17 ?_
  refine q_iload_n B dX6_restore_20 rfl rfl ?_
  refine q_aaloadN B (dSA hc) rfl (vp_in_nI (by omega) (by decide)) (by rw [nI_clamp (by omega)]; exact hs) dX6_restore_21 ?_
  refine q_astoreN_n B dX6_restore_22 rfl (Nat.le_of_ble_eq_true rfl) rfl ?_
  refine q_aloadN_n B dX6_restore_23 rfl rfl ?_
  refine q_ifnonnullN B dX6_restore_24 ?_
  refine q_bipush (v := -5) B dX6_restore_27 rfl ?_
  exact q_iret BM rfl dX6_restore_29 ⟨rfl, rfl, rfl⟩
set_option maxRecDepth 100000 in
set_option maxHeartbeats 4000000 in
theorem s_X6_restore_yes {Sh : q_Sh} {I : q_Mem} {d u : Nat} {σ : a_A} {H : Nat → a_A} (hc : dOk Sh d) (hD : Ds d I σ u H) {c : Nat} (hk : c < 2) {b : Nat} (hs : Sh.2.2 (d + 426) c = some b) (hcb : cOk Sh b) (hb : d + 429 ≤ b) {τ : a_A} (hRb : Rs b I τ) : q_Rp mX6_restore 5 [.ref d, .int (nI c)] Sh (I) (fun w J => w = some (.int (nI (a_T τ))) ∧ Ds d J τ (a_recN u) (a_push u H σ) ∧ FrD d I J) := by
  refine q_rp_of (by decide) (Nat.le_of_ble_eq_true rfl) fun Γ BM => ?_
  have B := BM.1
  obtain ⟨hR, z0, hP⟩ := hD
  have hu := hP.2.2.1
  have hn := hP.2.2.2.1
  show q_W Γ mX6_restore 0 0 Sh (I) 0 [(0, .ref d), (1, .int (nI c))] []
  refine q_iload_n B dX6_restore_0 rfl rfl ?_
  refine q_if_lt (tgt := 13) B dX6_restore_1 (by decide) (fun h => absurd h ((nI_pos (by omega)))) (fun _ => ?_)
  refine q_iload_n B dX6_restore_4 rfl rfl ?_
  refine q_aload_n B dX6_restore_5 rfl rfl ?_
  refine q_getR B kC_X6 (k := 3) (by decide) rfl kf_X6_26 hc.1 (dsl hc) dX6_restore_6 ?_
  refine q_alen B (dSA hc) rfl dX6_restore_9 ?_
  refine q_icmp_lt (tgt := 16) B dX6_restore_10 (by decide) (fun _ => ?_) (fun h => absurd ((q_lt (b := 2) hk (by decide))) h)
  refine q_aload_n B dX6_restore_16 rfl rfl ?_
  refine q_getR B kC_X6 (k := 3) (by decide) rfl kf_X6_26 hc.1 (dsl hc) dX6_restore_17 ?_
  refine q_iload_n B dX6_restore_20 rfl rfl ?_
  refine q_aaload B (dSA hc) rfl (vp_in_nI (by omega) (by decide)) (by rw [nI_clamp (by omega)]; exact hs) dX6_restore_21 ?_
  refine q_astore_n B dX6_restore_22 rfl (Nat.le_of_ble_eq_true rfl) rfl ?_
  refine q_aload_n B dX6_restore_23 rfl rfl ?_
  refine q_ifnonnull (tgt := 30) B dX6_restore_24 (by decide) ?_
  refine q_aload_n B dX6_restore_30 rfl rfl ?_
  refine q_getR B kC_X6 (k := 2) (by decide) rfl kf_X6_22 hc.1 (dp hc) dX6_restore_31 ?_
  refine q_aload_n B dX6_restore_34 rfl rfl ?_
  refine q_getR B kC_X6 (k := 0) (by decide) rfl kf_X6_10 hc.1 (dn hc) dX6_restore_35 ?_
  refine q_rpV B (s_X4_note (dP hc) hP.2.1 hn (dN hc) hR (by omega)) kv_yX4_note ki_yX4_note ks_yX4_note km_X6_37 rfl (ci := 4) rfl rfl (dP hc).1 (by decide) rfl (Nat.le_of_ble_eq_true rfl) dX6_restore_38 (fun w1 I1 hx => ?_)
  obtain ⟨rfl, hns, hF⟩ := hx
  have hns : Rs (d + 95 + 2 + 47 * z0) I1 σ := hns
  have hP1 := hP.note hF
  have hRb1 : Rs b I1 τ := hRb.far hF (by omega)
  refine q_aload_n B dX6_restore_41 rfl rfl ?_
  refine q_getR B kC_X6 (k := 2) (by decide) rfl kf_X6_22 hc.1 (dp hc) dX6_restore_42 ?_
  refine q_rtV B (s_X4_keep (dP hc) hP1.1 hP1.2.1 hu hn) kv_yX4_keep ki_yX4_keep ks_yX4_keep km_X6_211 rfl (ci := 4) rfl rfl (dP hc).1 (by decide) rfl (Nat.le_of_ble_eq_true rfl) dX6_restore_45 ?_
  have hP2 := hP1.keep hns
  have hRb2 : Rs b (kpM (d + 95) I1 u z0) τ := hRb1.loc (fun l a b => q_setA_ne (by omega))
  refine q_aload_n B dX6_restore_48 rfl rfl ?_
  refine q_getR B kC_X6 (k := 0) (by decide) rfl kf_X6_10 hc.1 (dn hc) dX6_restore_49 ?_
  refine q_aload_n B dX6_restore_52 rfl rfl ?_
  refine q_rpV B (s_X0_copyFrom (dN hc) hcb hRb2 (by omega)) kv_yX0_copyFrom ki_yX0_copyFrom ks_yX0_copyFrom km_X6_160 rfl (ci := 0) rfl rfl (dN hc).1 (by decide) rfl (Nat.le_of_ble_eq_true rfl) dX6_restore_53 (fun w2 J hx => ?_)
  obtain ⟨rfl, h1, h2⟩ := hx
  refine q_aload_n B dX6_restore_56 rfl rfl ?_
  refine q_getR B kC_X6 (k := 0) (by decide) rfl kf_X6_10 hc.1 (dn hc) dX6_restore_57 ?_
  refine q_getI2 B kC_X0 (k := 1) (by decide) rfl kf_X6_142 (dN hc).1 h1.1.2.1.2.1 dX6_restore_60 ?_
  exact q_iret BM rfl dX6_restore_63 ⟨rfl, rfl, ⟨Rc.s h1, _, hP2.far h2 (by omega)⟩, fun l hl => ((h2 l (by omega)).trans (q_setA_ne (by omega))).trans (hF l (by omega))⟩
set_option maxRecDepth 100000 in
set_option maxHeartbeats 4000000 in
theorem s_X6_save_old {Sh : q_Sh} {I : q_Mem} {d u : Nat} {σ : a_A} {H : Nat → a_A} (hc : dOk Sh d) (hD : Ds d I σ u H) {c : Nat} (hk : c < 2) {b : Nat} (hs : Sh.2.2 (d + 426) c = some b) (hcb : cOk Sh b) (hb : d + 429 ≤ b) : q_Rp mX6_save 5 [.ref d, .int (nI c)] Sh (I) (fun w J => w = some (.int (nI (a_T σ))) ∧ Rs b J σ ∧ Fr b I J) := by
  refine q_rp_of (by decide) (Nat.le_of_ble_eq_true rfl) fun Γ BM => ?_
  have B := BM.1
  have hR := hD.1
  show q_W Γ mX6_save 0 0 Sh (I) 0 [(0, .ref d), (1, .int (nI c))] []
  refine q_iload_n B dX6_save_0 rfl rfl ?_
  refine q_if_lt (tgt := 13) B dX6_save_1 (by decide) (fun h => absurd h ((nI_pos (by omega)))) (fun _ => ?_)
  refine q_iload_n B dX6_save_4 rfl rfl ?_
  refine q_aload_n B dX6_save_5 rfl rfl ?_
  refine q_getR B kC_X6 (k := 3) (by decide) rfl kf_X6_26 hc.1 (dsl hc) dX6_save_6 ?_
  refine q_alen B (dSA hc) rfl dX6_save_9 ?_
  refine q_icmp_lt (tgt := 16) B dX6_save_10 (by decide) (fun _ => ?_) (fun h => absurd ((q_lt (b := 2) hk (by decide))) h)
  refine q_aload_n B dX6_save_16 rfl rfl ?_
  refine q_getR B kC_X6 (k := 3) (by decide) rfl kf_X6_26 hc.1 (dsl hc) dX6_save_17 ?_
  refine q_iload_n B dX6_save_20 rfl rfl ?_
  refine q_aaload B (dSA hc) rfl (vp_in_nI (by omega) (by decide)) (by rw [nI_clamp (by omega)]; exact hs) dX6_save_21 ?_
  refine q_astore_n B dX6_save_22 rfl (Nat.le_of_ble_eq_true rfl) rfl ?_
  refine q_aload_n B dX6_save_23 rfl rfl ?_
  refine q_ifnonnull (tgt := 42) B dX6_save_24 (by decide) ?_
  refine q_aload_n B dX6_save_42 rfl rfl ?_
  refine q_aload_n B dX6_save_43 rfl rfl ?_
  refine q_getR B kC_X6 (k := 0) (by decide) rfl kf_X6_10 hc.1 (dn hc) dX6_save_44 ?_
  refine q_rpV B (s_X0_copyFrom hcb (dN hc) hR (by omega)) kv_yX0_copyFrom ki_yX0_copyFrom ks_yX0_copyFrom km_X6_160 rfl (ci := 0) rfl rfl hcb.1 (by decide) rfl (Nat.le_of_ble_eq_true rfl) dX6_save_47 (fun w2 J hx => ?_)
  obtain ⟨rfl, h1, h2⟩ := hx
  refine q_aload_n B dX6_save_50 rfl rfl ?_
  refine q_getR B kC_X6 (k := 0) (by decide) rfl kf_X6_10 hc.1 (dn hc) dX6_save_51 ?_
  refine q_getI2 B kC_X0 (k := 1) (by decide) rfl kf_X6_142 (dN hc).1 ((congrFun (h2 (d + 1) (by omega)) 1).trans hR.1.2.1.2.1) dX6_save_54 ?_
  exact q_iret BM rfl dX6_save_57 ⟨rfl, rfl, Rc.s h1, h2⟩
set_option maxRecDepth 100000 in
set_option maxHeartbeats 4000000 in
theorem s_X6_save_new {Sh : q_Sh} {I : q_Mem} {d u : Nat} {σ : a_A} {H : Nat → a_A} (hc : dOk Sh d) (hD : Ds d I σ u H) {c : Nat} (hk : c < 2) (hs : Sh.2.2 (d + 426) c = none) (hcl : q_cl Sh) : q_Call mX6_save 5 47 343 [.ref d, .int (nI c)] Sh I (fun w S2 J => w = some (.int (nI (a_T σ))) ∧ (∃ S, S2 = m_R S (d + 426) c Sh.1 ∧ q_gr Sh.1 Sh S ∧ m_Cf Sh.1 47 S) ∧ Rs Sh.1 J σ ∧ ∀ l, l < Sh.1 → J l = I l) := by
  refine q_call_of (by decide) (Nat.le_of_ble_eq_true rfl) fun Γ BM => ?_
  have B := BM.1
  have hR := hD.1
  have hdn := dHi hc
  show q_W Γ mX6_save 47 343 Sh (I) 0 [(0, .ref d), (1, .int (nI c))] []
  refine q_iload_n B dX6_save_0 rfl rfl ?_
  refine q_if_lt (tgt := 13) B dX6_save_1 (by decide) (fun h => absurd h ((nI_pos (by omega)))) (fun _ => ?_)
  refine q_iload_n B dX6_save_4 rfl rfl ?_
  refine q_aload_n B dX6_save_5 rfl rfl ?_
  refine q_getR B kC_X6 (k := 3) (by decide) rfl kf_X6_26 hc.1 (dsl hc) dX6_save_6 ?_
  refine q_alen B (dSA hc) rfl dX6_save_9 ?_
  refine q_icmp_lt (tgt := 16) B dX6_save_10 (by decide) (fun _ => ?_) (fun h => absurd ((q_lt (b := 2) hk (by decide))) h)
  refine q_aload_n B dX6_save_16 rfl rfl ?_
  refine q_getR B kC_X6 (k := 3) (by decide) rfl kf_X6_26 hc.1 (dsl hc) dX6_save_17 ?_
  refine q_iload_n B dX6_save_20 rfl rfl ?_
  refine q_aaloadN B (dSA hc) rfl (vp_in_nI (by omega) (by decide)) (by rw [nI_clamp (by omega)]; exact hs) dX6_save_21 ?_
  refine q_astoreN_n B dX6_save_22 rfl (Nat.le_of_ble_eq_true rfl) rfl ?_
  refine q_aloadN_n B dX6_save_23 rfl rfl ?_
  refine q_ifnonnullN B dX6_save_24 ?_
  refine q_tol (lv2 := [(0, .ref d), (1, .int (nI c))]) (st2 := []) (q_ac rfl (q_ac rfl q_an)) rfl ?_
  refine q_less (rc' := 46 + 1) (rs' := 337 + 6) (by omega) (by omega) (q_new B kC_X0 kl_X6_7 k1_X0 k0_X0 (by decide +kernel) (q_cl_f hcl) ⟨q_ovl_lv (by simp only [q_ovl, q_ov, List.map, and_true, true_and] <;> omega), q_ovl_old (by simp only [q_ovl, q_ov, List.map, and_true, true_and] <;> omega)⟩ dX6_save_27 ?_)
  refine q_dup B dX6_save_30 rfl ?_
  have eN : (q_nS Sh (.inl 0)).1 = Sh.1 + 1 := rfl
  refine q_callI (rc := 0) (mc := 46) (rs := 0) (ms := 337) (As := []) B (s_X0_initR q_nS_is rfl (q_nS_cl hcl)) kv_yX0_init ki_yX0_init rfl rfl km_X6_9 rfl (by decide) (Nat.le_of_ble_eq_true rfl) dX6_save_31 (fun v S J2 hx => ?_)
  obtain ⟨rfl, hC, hV, hg⟩ := hx
  have hg := q_nS_gr.tr hg (Nat.le_refl _)
  have hJ2 : ∀ l, l < Sh.1 → J2 l = I l := fun l hl => (hV.2.2 l hl).trans (q_nI_ne (by omega))
  have hR2 : Rs (d + 1) J2 σ := hR.loc (fun l a b => hJ2 l (by omega))
  refine ⟨Or.inr ⟨q_ovl_lv (by simp only [q_ovl, q_ov, List.map, and_true, true_and] <;> omega), q_ovl_old (by simp only [q_ovl, q_ov, List.map, and_true, true_and] <;> omega)⟩, ?_⟩
  have hc2 := hc.gx (hg.x) hdn
  refine q_astore_n B dX6_save_34 rfl (Nat.le_of_ble_eq_true rfl) rfl ?_
  refine q_aload_n B dX6_save_35 rfl rfl ?_
  refine q_getR B kC_X6 (k := 3) (by decide) rfl kf_X6_26 hc2.1 (dsl hc2) dX6_save_36 ?_
  refine q_iload_n B dX6_save_39 rfl rfl ?_
  refine q_aload_n B dX6_save_40 rfl rfl ?_
  refine q_aastore (r := (RX0, TX0, 6)) B (dSA hc2) rfl kC_X0.1 (hC.is (j := 0) (by decide) rfl) (vp_in_nI (by omega) (by decide)) dX6_save_41 ?_
  rw [nI_clamp (by omega)]
  change q_W Γ mX6_save _ _ (m_R S (d + 426) c Sh.1) _ 42 _ _
  have hSn := hC.1
  have hc3 := hc2.gx (m_R_gx (l := d + 426) (k := c) (x := Sh.1)) (by omega)
  have hTc : cOk (m_R S (d + 426) c Sh.1) Sh.1 := hC.ok.gx m_R_gx (by omega) (by omega)
  refine q_aload_n B dX6_save_42 rfl rfl ?_
  refine q_aload_n B dX6_save_43 rfl rfl ?_
  refine q_getR B kC_X6 (k := 0) (by decide) rfl kf_X6_10 hc3.1 (dn hc3) dX6_save_44 ?_
  refine q_rpV B (s_X0_copyFrom hTc (dN hc3) hR2 (by omega)) kv_yX0_copyFrom ki_yX0_copyFrom ks_yX0_copyFrom km_X6_160 rfl (ci := 0) rfl rfl (hTc.1) (by decide) rfl (Nat.le_of_ble_eq_true rfl) dX6_save_47 (fun w2 J hx => ?_)
  obtain ⟨rfl, h1, h2⟩ := hx
  refine q_aload_n B dX6_save_50 rfl rfl ?_
  refine q_getR B kC_X6 (k := 0) (by decide) rfl kf_X6_10 hc3.1 (dn hc3) dX6_save_51 ?_
  refine q_getI2 B kC_X0 (k := 1) (by decide) rfl kf_X6_142 (dN hc3).1 ((congrFun (h2 (d + 1) (by omega)) 1).trans hR2.1.2.1.2.1) dX6_save_54 ?_
  exact q_iret BM rfl dX6_save_57 ⟨rfl, ⟨S, rfl, hg, hC⟩, Rc.s h1, fun l hl => (h2 l (by omega)).trans (hJ2 l hl)⟩
