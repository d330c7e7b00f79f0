/-! repaired things stay so: what a pass answers is never below 0 -/
theorem a_how_step1 {T F f i : Nat} {σ : a_A} (hW : a_W T F σ) (h : σ (57 + 7 * i + 4) = nI 2) (hf : f < F) : a_min1 f σ (57 + 7 * i + 4) = nI 2 := by
  have hF := hW.2.1.2
  unfold a_min1
  split
  · rw [a_takes_at hW (fun t ht q => by
      have e : i = t := by omega
      subst e
      rw [h] at ht
      exact absurd ht (by decide)) (by omega)]
    exact h
  · exact h
theorem a_how_step2 {T F f i : Nat} {σ : a_A} (hW : a_W T F σ) (h : σ (57 + 7 * i + 4) = nI 2) (hf : f < F) : a_min2 f σ (57 + 7 * i + 4) = nI 2 := by
  have hF := hW.2.1.2
  unfold a_min2
  split
  · rename_i hp
    obtain ⟨t, ht, hh⟩ := a_has_pos hW hf hp
    have et : a_n (σ (27 + 6 * f + 2)) - 1 = t := by rw [hh]; unfold a_n; rw [nI_clamp (by omega)]; omega
    have hne : i ≠ t := by
      intro q
      subst q
      obtain ⟨y, a, b, c⟩ := hW.2.2.2.2.2.2.1 f hf
      have := (nI_eq (by omega) (by have := hW.1.2; omega)).mp (hh.symm.trans b)
      rw [c i this.symm] at h
      exact absurd h (by decide)
    unfold a_works
    try dsimp only
    rw [et]
    generalize hr : a_work1 (upd σ (27 + 6 * f + 5) (σ (27 + 6 * f + 5) + 1)) f t = r
    have e : r.1 (57 + 7 * i + 4) = nI 2 := by
      rw [← hr, a_work1_at (by omega) (by omega) (by omega) (by omega) (by omega), q_upd_ne (by omega)]
      exact h
    split
    · unfold a_givesUp
      try dsimp only
      rw [q_upd_ne (by omega), q_upd_ne (by omega), a_strips_at (by omega) (by omega)]
      exact e
    · split
      · rw [q_upd_ne (by omega), q_upd_ne (by omega), q_upd_ne (by omega)]; exact e
      · exact e
  · exact h
theorem a_how_step3 {t i : Nat} {σ : a_A} (h : σ (57 + 7 * i + 4) = nI 2) : a_min3 t σ (57 + 7 * i + 4) = nI 2 := by
  by_cases e : i = t
  · subst e
    unfold a_min3
    rw [if_neg (by rw [h]; decide)]
    exact h
  · rw [a_min3_at (by omega) (by omega)]; exact h
theorem a_fold_keep {T F N k : Nat} {v : Int32} {g : Nat → a_A → a_A} (hg : ∀ i σ, i < N → a_W T F σ → a_W T F (g i σ)) (hh : ∀ i σ, i < N → a_W T F σ → σ k = v → g i σ k = v) {σ : a_A} (hW : a_W T F σ) (h : σ k = v) : ∀ n, n ≤ N → q_fold g n σ k = v := by
  intro n
  induction n with
  | zero => intro _; exact h
  | succ n ih => intro q; exact hh n _ (by omega) (a_fold_W hg n σ (by omega) hW) (ih (by omega))
theorem a_minute_rep {T F i : Nat} {σ : a_A} (hW : a_W T F σ) (h : σ (57 + 7 * i + 4) = nI 2) : a_minute σ (57 + 7 * i + 4) = nI 2 := by
  unfold a_minute
  try dsimp only
  rw [a_W_F hW, a_W_T hW, q_upd_ne (by omega)]
  have hW1 : a_W T F (q_fold a_min1 F σ) := a_fold_W (f := a_min1) (N := F) (fun j s hj hs => a_min1_W hj hs) F σ (Nat.le_refl F) hW
  have hW2 : a_W T F (q_fold a_min2 F (q_fold a_min1 F σ)) := a_fold_W (f := a_min2) (N := F) (fun j s hj hs => a_min2_W hj hs) F _ (Nat.le_refl F) hW1
  have h1 := a_fold_keep (g := a_min1) (N := F) (fun j s hj hs => a_min1_W hj hs) (fun f s hf hs q => a_how_step1 hs q hf) hW h F (Nat.le_refl F)
  have h2 := a_fold_keep (g := a_min2) (N := F) (fun j s hj hs => a_min2_W hj hs) (fun f s hf hs q => a_how_step2 hs q hf) hW1 h1 F (Nat.le_refl F)
  exact a_fold_keep (g := a_min3) (N := T) (fun j s hj hs => a_min3_W hj hs) (fun f s hf hs q => a_how_step3 q) hW2 h2 T (Nat.le_refl T)
theorem a_minutes_rep {T F i : Nat} {σ : a_A} (hW : a_W T F σ) (h : σ (57 + 7 * i + 4) = nI 2) : ∀ n, a_minutes n σ (57 + 7 * i + 4) = nI 2 := by
  intro n
  induction n with
  | zero => exact h
  | succ n ih => exact a_minute_rep (a_minutes_W hW n) ih
def a_cnt (σ : a_A) : Nat → Nat
  | 0 => 0
  | n + 1 => a_cnt σ n + (if σ (57 + 7 * n + 4) = nI 2 then 1 else 0)
theorem a_cnt_how (σ : a_A) : ∀ n, q_fold (fun i (n : Int32) => n + (if σ (57 + 7 * i + 4) = nI 2 then 1 else 0)) n 0 = nI (a_cnt σ n) := by
  intro n
  induction n with
  | zero => rfl
  | succ n ih =>
    show q_fold _ n 0 + _ = nI (a_cnt σ n + _)
    rw [ih]
    split
    · exact a_inc _
    · exact Int32.add_zero _
theorem a_cnt_le (σ : a_A) : ∀ n, a_cnt σ n ≤ n := by
  intro n
  induction n with
  | zero => exact Nat.le_refl 0
  | succ n ih => show a_cnt σ n + _ ≤ n + 1; split <;> omega
theorem a_cnt_mono {σ σ' : a_A} (h : ∀ i, σ (57 + 7 * i + 4) = nI 2 → σ' (57 + 7 * i + 4) = nI 2) : ∀ n, a_cnt σ n ≤ a_cnt σ' n := by
  intro n
  induction n with
  | zero => exact Nat.le_refl 0
  | succ n ih =>
    show a_cnt σ n + _ ≤ a_cnt σ' n + _
    by_cases e : σ (57 + 7 * n + 4) = nI 2
    · rw [if_pos e, if_pos (h n e)]; omega
    · rw [if_neg e]; omega
theorem a_rep_pos {T F : Nat} {σ : a_A} (hW : a_W T F σ) (n : Nat) : ∃ c, c ≤ 30 ∧ a_how (a_minutes n σ) (nI 2) - a_how σ (nI 2) = nI c := by
  have hW2 := a_minutes_W hW n
  have hT := hW.1.2
  unfold a_how
  rw [a_W_T hW, a_W_T hW2, a_cnt_how, a_cnt_how]
  have h1 := a_cnt_mono (fun i q => a_minutes_rep hW q n) T
  have h2 := a_cnt_le (a_minutes n σ) T
  exact ⟨_, by omega, q_nI_sub h1⟩
theorem a_strips_n {σ : a_A} {t : Nat} : ∃ c, c ≤ 8 ∧ (a_strips σ t).2 = nI c := by
  have key : ∀ n, ∃ c, c ≤ n ∧ (q_fold (a_strip1 (a_good σ t)) n (σ, 0)).2 = nI c := by
    intro n
    induction n with
    | zero => exact ⟨0, Nat.le_refl 0, rfl⟩
    | succ n ih =>
      obtain ⟨c, hc, e⟩ := ih
      show ∃ c, c ≤ n + 1 ∧ (a_strip1 (a_good σ t) n (q_fold (a_strip1 (a_good σ t)) n (σ, 0))).2 = nI c
      generalize q_fold (a_strip1 (a_good σ t)) n (σ, 0) = x at e ⊢
      unfold a_strip1
      split
      · rcases a_goes_v x.1 n with ⟨z, -⟩ | ⟨z, -⟩
        · exact ⟨c + 1, by omega, by show x.2 + a_goes x.1 n = _; rw [z, e]; exact a_inc c⟩
        · exact ⟨c, by omega, by show x.2 + a_goes x.1 n = _; rw [z, e]; exact Int32.add_zero _⟩
      · exact ⟨c, by omega, e⟩
  exact key 8
theorem Ds.far {d u : Nat} {I J : q_Mem} {σ : a_A} {H : Nat → a_A} (h : Ds d I σ u H) (k : Fr (d + 48) I J) : Ds d J σ u H := ⟨h.1.far k (by omega), h.2.elim fun n q => ⟨n, q.far k (by omega)⟩⟩
theorem FrD.ah {d : Nat} {I J : q_Mem} (k : Fr (d + 48) I J) : FrD d I J := fun l hl => k l (by omega)
theorem Ds.nt {d n u : Nat} {I J : q_Mem} {σ : a_A} {H : Nat → a_A} (h : Rs (d + 1) I σ) (hP : Pr (d + 95) I u n H) (k : Fr (d + 95 + 2 + 47 * n) I J) : Ds d J σ u H ∧ FrD d I J := by
  have hn := hP.2.2.2.1
  exact ⟨⟨h.far k (by omega), n, hP.note k⟩, fun l hl => k l (by omega)⟩
set_option maxRecDepth 100000 in
set_option maxHeartbeats 4000000 in
theorem s_X0_letPassC {Sh : q_Sh} {I : q_Mem} {σ : a_A} {b T F : Nat} (hc : cOk Sh b) (hR : Rc T F b I σ) {m : Int32} : q_Rp mX0_letPass 5 [.ref b, .int m] Sh (I) (fun w I2 => Cg b I (a_refP σ m) (a_how (a_minutes (a_n m) σ) (nI 2) - a_how σ (nI 2)) (a_minutes (a_n m) σ) w I2) := by
  refine q_rp_of (by decide) (Nat.le_of_ble_eq_true rfl) fun Γ BM => ?_
  have B := BM.1
  show q_W Γ mX0_letPass 0 0 Sh (I) 0 [(0, .ref b), (1, .int m)] []
  refine q_iload_n B dX0_letPass_0 rfl rfl ?_
  refine q_iconst (v := nI 1) B dX0_letPass_1 rfl ?_
  refine q_icmp_lt (tgt := 11) B dX0_letPass_2 (by decide) (fun c_2 => ?_) (fun c_2 => ?_)
  · skip
    have hrf : a_refP σ m = -2 := if_pos (fun q => absurd q.1 (Int32.not_le.mpr c_2))
    refine q_bipush (v := -2) B dX0_letPass_11 rfl ?_
    exact q_iret BM rfl dX0_letPass_13 ⟨rfl, _, rfl, Or.inl ⟨by rw [hrf]; decide, hrf.symm, rfl⟩⟩
  · skip
    have h1 : nI 1 ≤ m := Int32.not_lt.mp c_2
    refine q_iload_n B dX0_letPass_5 rfl rfl ?_
    refine q_bipush (v := nI 99) B dX0_letPass_6 rfl ?_
    refine q_icmp_le (tgt := 14) B dX0_letPass_8 (by decide) (fun c_8 => ?_) (fun c_8 => ?_)
    · skip
      obtain ⟨n, hn, rfl⟩ := nI_of2 (M := nI 99) (nI_toInt (by decide)) (by rw [Int32.not_lt]; exact Int32.le_trans (by decide) h1) c_8
      refine q_aload_n B dX0_letPass_14 rfl rfl ?_
      refine q_getI2 B kC_X0 (k := 0) (by decide) rfl kf_X0_9 hc.1 hR.1.2.1.1 dX0_letPass_15 ?_
      refine q_iload_n B dX0_letPass_18 rfl rfl ?_
      refine q_iadd B dX0_letPass_19 ?_
      refine q_sipush (v := nI 9999) B dX0_letPass_20 rfl ?_
      refine q_icmp_le (tgt := 29) B dX0_letPass_23 (by decide) (fun c_23 => ?_) (fun c_23 => ?_)
      · skip
        have hrf : a_refP σ (nI n) = 0 := by unfold a_refP; rw [if_neg (fun q => q ⟨h1, c_8⟩), if_neg (Int32.not_lt.mpr c_23)]
        refine q_aload_n B dX0_letPass_29 rfl rfl ?_
        refine q_iload_n B dX0_letPass_30 rfl rfl ?_
        refine q_rpV B (s_X0_passMinutes hc hR (k := n) (by omega)) kv_yX0_passMinutes ki_yX0_passMinutes ks_yX0_passMinutes km_X0_89 rfl (ci := 0) rfl rfl hc.1 (by decide) rfl (Nat.le_of_ble_eq_true rfl) dX0_letPass_31 (fun w J hx => ?_)
        obtain ⟨rfl, h2, h3⟩ := hx
        exact q_iret BM rfl dX0_letPass_34 ⟨rfl, _, rfl, Or.inr ⟨hrf, by rw [show a_n (nI n) = n from nI_clamp (by omega)], by rw [show a_n (nI n) = n from nI_clamp (by omega)]; exact h2.s, h3⟩⟩
      · skip
        have hrf : a_refP σ (nI n) = -5 := by unfold a_refP; rw [if_neg (fun q => q ⟨h1, c_8⟩), if_pos (Int32.not_le.mp c_23)]
        refine q_bipush (v := -5) B dX0_letPass_26 rfl ?_
        exact q_iret BM rfl dX0_letPass_28 ⟨rfl, _, rfl, Or.inl ⟨by rw [hrf]; decide, hrf.symm, rfl⟩⟩
    · skip
      have hrf : a_refP σ m = -2 := if_pos (fun q => absurd q.2 (Int32.not_le.mpr (Int32.not_le.mp c_8)))
      refine q_bipush (v := -2) B dX0_letPass_11 rfl ?_
      exact q_iret BM rfl dX0_letPass_13 ⟨rfl, _, rfl, Or.inl ⟨by rw [hrf]; decide, hrf.symm, rfl⟩⟩
set_option maxRecDepth 100000 in
set_option maxHeartbeats 4000000 in
theorem s_X6_pass {Sh : q_Sh} {I : q_Mem} {d u : Nat} {σ : a_A} {H : Nat → a_A} (hc : dOk Sh d) (hD : Ds d I σ u H) {m : Int32} : q_Rp mX6_pass 6 [.ref d, .int m] Sh (I) (fun w J => Dn d I (a_refP σ m) (a_how (a_minutes (a_n m) σ) (nI 2) - a_how σ (nI 2)) σ (a_minutes (a_n m) σ) u H w J) := by
  refine q_rp_of (by decide) (Nat.le_of_ble_eq_true rfl) fun Γ BM => ?_
  have B := BM.1
  obtain ⟨hR, n, hP⟩ := hD
  have hu := hP.2.2.1
  have hn := hP.2.2.2.1
  show q_W Γ mX6_pass 0 0 Sh (I) 0 [(0, .ref d), (1, .int m)] []
  refine q_aload_n B dX6_pass_0 rfl rfl ?_
  refine q_getR B kC_X6 (k := 2) (by decide) rfl kf_X6_22 hc.1 (dp hc) dX6_pass_1 ?_
  refine q_aload_n B dX6_pass_4 rfl rfl ?_
  refine q_getR B kC_X6 (k := 0) (by decide) rfl kf_X6_10 hc.1 (dn hc) dX6_pass_5 ?_
  refine q_rpV B (s_X4_note (dP hc) hP.2.1 hn (dN hc) hR (by omega)) kv_yX4_note ki_yX4_note ks_yX4_note km_X6_37 rfl (ci := 4) rfl rfl (dP hc).1 (by decide) rfl (Nat.le_of_ble_eq_true rfl) dX6_pass_8 (fun w0 I1 hx => ?_)
  obtain ⟨rfl, hs, hF⟩ := hx
  have hs : Rs (d + 95 + 2 + 47 * n) I1 σ := hs
  have hR1 : Rs (d + 1) I1 σ := hR.far hF (by omega)
  have hP1 := hP.note hF
  refine q_aload_n B dX6_pass_11 rfl rfl ?_
  refine q_aload_n B dX6_pass_12 rfl rfl ?_
  refine q_getR B kC_X6 (k := 0) (by decide) rfl kf_X6_10 hc.1 (dn hc) dX6_pass_13 ?_
  refine q_iload_n B dX6_pass_16 rfl rfl ?_
  refine q_rpV B (s_X0_letPassC (dN hc) hR1) kv_yX0_letPass ki_yX0_letPass ks_yX0_letPass km_X6_59 rfl (ci := 0) rfl rfl (dN hc).1 (by decide) rfl (Nat.le_of_ble_eq_true rfl) dX6_pass_17 (fun w1 I2 hx => ?_)
  have hfr := Dn_fr hx
  have hP2 := hP1.far hfr (by omega)
  obtain ⟨v, rfl, hxx⟩ := hx
  have hx := (show Cg _ _ _ _ _ _ _ from ⟨v, rfl, hxx⟩)
  refine q_rtV B (s_X6_kept hc hP2.1 hP2.2.1 hu hn) kv_yX6_kept ki_yX6_kept ks_yX6_kept km_X6_45 rfl (ci := 6) rfl rfl hc.1 (by decide) rfl (Nat.le_of_ble_eq_true rfl) dX6_pass_20 ?_
  exact q_iret BM rfl dX6_pass_23 ⟨rfl, Dn_fin hF hn hP1 hs hR1 hx (a_refP_neg) (fun _ => by obtain ⟨c, hc, e⟩ := a_rep_pos hR.2.2 (a_n m); rw [e]; exact nI_pos (by omega))⟩
set_option maxRecDepth 100000 in
set_option maxHeartbeats 4000000 in
theorem s_X6_drawer {Sh : q_Sh} {I : q_Mem} {d u : Nat} {σ : a_A} {H : Nat → a_A} (hc : dOk Sh d) (hD : Ds d I σ u H) {j : Nat} {m : Int32} (hj : j < 8) : q_Rp mX6_drawer 3 [.ref d, .int (nI j), .int m] Sh (I) (fun w J => Dn d I (a_refD (nI j) m) (σ (3 + j)) σ (upd σ (3 + j) m) u H w J) := by
  refine q_rp_of (by decide) (Nat.le_of_ble_eq_true rfl) fun Γ BM => ?_
  have B := BM.1
  obtain ⟨hR, n, hP⟩ := hD
  have hu := hP.2.2.1
  have hn := hP.2.2.2.1
  show q_W Γ mX6_drawer 0 0 Sh (I) 0 [(0, .ref d), (1, .int (nI j)), (2, .int m)] []
  refine q_aload_n B dX6_drawer_0 rfl rfl ?_
  refine q_getR B kC_X6 (k := 2) (by decide) rfl kf_X6_22 hc.1 (dp hc) dX6_drawer_1 ?_
  refine q_aload_n B dX6_drawer_4 rfl rfl ?_
  refine q_getR B kC_X6 (k := 0) (by decide) rfl kf_X6_10 hc.1 (dn hc) dX6_drawer_5 ?_
  refine q_rpV B (s_X4_note (dP hc) hP.2.1 hn (dN hc) hR (by omega)) kv_yX4_note ki_yX4_note ks_yX4_note km_X6_37 rfl (ci := 4) rfl rfl (dP hc).1 (by decide) rfl (Nat.le_of_ble_eq_true rfl) dX6_drawer_8 (fun w0 I1 hx => ?_)
  obtain ⟨rfl, hs, hF⟩ := hx
  have hs : Rs (d + 95 + 2 + 47 * n) I1 σ := hs
  have hR1 : Rs (d + 1) I1 σ := hR.far hF (by omega)
  have hP1 := hP.note hF
  refine q_aload_n B dX6_drawer_11 rfl rfl ?_
  refine q_aload_n B dX6_drawer_12 rfl rfl ?_
  refine q_getR B kC_X6 (k := 0) (by decide) rfl kf_X6_10 hc.1 (dn hc) dX6_drawer_13 ?_
  refine q_iload_n B dX6_drawer_16 rfl rfl ?_
  refine q_iload_n B dX6_drawer_17 rfl rfl ?_
  refine q_rpV B (s_X0_fillDrawer (dN hc) hR1 hj) kv_yX0_fillDrawer ki_yX0_fillDrawer ks_yX0_fillDrawer km_X6_53 rfl (ci := 0) rfl rfl (dN hc).1 (by decide) rfl (Nat.le_of_ble_eq_true rfl) dX6_drawer_18 (fun w1 I2 hx => ?_)
  have hfr := Dn_fr hx
  have hP2 := hP1.far hfr (by omega)
  obtain ⟨v, rfl, hxx⟩ := hx
  have hx := (show Cg _ _ _ _ _ _ _ from ⟨v, rfl, hxx⟩)
  refine q_rtV B (s_X6_kept hc hP2.1 hP2.2.1 hu hn) kv_yX6_kept ki_yX6_kept ks_yX6_kept km_X6_45 rfl (ci := 6) rfl rfl hc.1 (by decide) rfl (Nat.le_of_ble_eq_true rfl) dX6_drawer_21 ?_
  exact q_iret BM rfl dX6_drawer_24 ⟨rfl, Dn_fin hF hn hP1 hs hR1 hx (a_refD_neg) (fun _ => by obtain ⟨c, hc, e⟩ := hR.2.2.2.2.2.2.2.2.2.2 j hj; rw [e]; exact nI_pos (by omega))⟩
set_option maxRecDepth 100000 in
set_option maxHeartbeats 4000000 in
theorem s_X6_drawer_no {Sh : q_Sh} {I : q_Mem} {d u : Nat} {σ : a_A} {H : Nat → a_A} (hc : dOk Sh d) (hD : Ds d I σ u H) {p m : Int32} (hp : ¬ (0 ≤ p ∧ p ≤ nI 7)) : q_Rp mX6_drawer 3 [.ref d, .int p, .int m] Sh (I) (fun w J => w = some (.int (-1)) ∧ Ds d J σ u H ∧ FrD d I J) := by
  refine q_rp_of (by decide) (Nat.le_of_ble_eq_true rfl) fun Γ BM => ?_
  have B := BM.1
  obtain ⟨hR, n, hP⟩ := hD
  have hu := hP.2.2.1
  have hn := hP.2.2.2.1
  show q_W Γ mX6_drawer 0 0 Sh (I) 0 [(0, .ref d), (1, .int p), (2, .int m)] []
  refine q_aload_n B dX6_drawer_0 rfl rfl ?_
  refine q_getR B kC_X6 (k := 2) (by decide) rfl kf_X6_22 hc.1 (dp hc) dX6_drawer_1 ?_
  refine q_aload_n B dX6_drawer_4 rfl rfl ?_
  refine q_getR B kC_X6 (k := 0) (by decide) rfl kf_X6_10 hc.1 (dn hc) dX6_drawer_5 ?_
  refine q_rpV B (s_X4_note (dP hc) hP.2.1 hn (dN hc) hR (by omega)) kv_yX4_note ki_yX4_note ks_yX4_note km_X6_37 rfl (ci := 4) rfl rfl (dP hc).1 (by decide) rfl (Nat.le_of_ble_eq_true rfl) dX6_drawer_8 (fun w0 I1 hx => ?_)
  obtain ⟨rfl, hs, hF⟩ := hx
  have hs : Rs (d + 95 + 2 + 47 * n) I1 σ := hs
  have hR1 : Rs (d + 1) I1 σ := hR.far hF (by omega)
  have hP1 := hP.note hF
  refine q_aload_n B dX6_drawer_11 rfl rfl ?_
  refine q_aload_n B dX6_drawer_12 rfl rfl ?_
  refine q_getR B kC_X6 (k := 0) (by decide) rfl kf_X6_10 hc.1 (dn hc) dX6_drawer_13 ?_
  refine q_iload_n B dX6_drawer_16 rfl rfl ?_
  refine q_iload_n B dX6_drawer_17 rfl rfl ?_
  refine q_rtV B (s_X0_fillDrawer_no (dN hc) hR1 hp) kv_yX0_fillDrawer ki_yX0_fillDrawer ks_yX0_fillDrawer km_X6_53 rfl (ci := 0) rfl rfl (dN hc).1 (by decide) rfl (Nat.le_of_ble_eq_true rfl) dX6_drawer_18 ?_
  refine q_rtV B (s_X6_kept hc hP1.1 hP1.2.1 hu hn) kv_yX6_kept ki_yX6_kept ks_yX6_kept km_X6_45 rfl (ci := 6) rfl rfl hc.1 (by decide) rfl (Nat.le_of_ble_eq_true rfl) dX6_drawer_21 ?_
  exact q_iret BM rfl dX6_drawer_24 ⟨rfl, rfl, (Ds.nt hR hP hF).1, (Ds.nt hR hP hF).2⟩
set_option maxRecDepth 100000 in
set_option maxHeartbeats 4000000 in
theorem s_X6_giveUp {Sh : q_Sh} {I : q_Mem} {d u : Nat} {σ : a_A} {H : Nat → a_A} (hc : dOk Sh d) (hD : Ds d I σ u H) {t : Nat} (ht : t < a_T σ) : q_Rp mX6_giveUp 3 [.ref d, .int (nI t)] Sh (I) (fun w J => Dn d I (a_refG σ (nI t)) ((a_strips σ t).2) σ ((a_strips σ t).1) u H w J) := by
  refine q_rp_of (by decide) (Nat.le_of_ble_eq_true rfl) fun Γ BM => ?_
  have B := BM.1
  obtain ⟨hR, n, hP⟩ := hD
  have hu := hP.2.2.1
  have hn := hP.2.2.2.1
  show q_W Γ mX6_giveUp 0 0 Sh (I) 0 [(0, .ref d), (1, .int (nI t))] []
  refine q_aload_n B dX6_giveUp_0 rfl rfl ?_
  refine q_getR B kC_X6 (k := 2) (by decide) rfl kf_X6_22 hc.1 (dp hc) dX6_giveUp_1 ?_
  refine q_aload_n B dX6_giveUp_4 rfl rfl ?_
  refine q_getR B kC_X6 (k := 0) (by decide) rfl kf_X6_10 hc.1 (dn hc) dX6_giveUp_5 ?_
  refine q_rpV B (s_X4_note (dP hc) hP.2.1 hn (dN hc) hR (by omega)) kv_yX4_note ki_yX4_note ks_yX4_note km_X6_37 rfl (ci := 4) rfl rfl (dP hc).1 (by decide) rfl (Nat.le_of_ble_eq_true rfl) dX6_giveUp_8 (fun w0 I1 hx => ?_)
  obtain ⟨rfl, hs, hF⟩ := hx
  have hs : Rs (d + 95 + 2 + 47 * n) I1 σ := hs
  have hR1 : Rs (d + 1) I1 σ := hR.far hF (by omega)
  have hP1 := hP.note hF
  refine q_aload_n B dX6_giveUp_11 rfl rfl ?_
  refine q_aload_n B dX6_giveUp_12 rfl rfl ?_
  refine q_getR B kC_X6 (k := 0) (by decide) rfl kf_X6_10 hc.1 (dn hc) dX6_giveUp_13 ?_
  refine q_iload_n B dX6_giveUp_16 rfl rfl ?_
  refine q_rpV B (s_X0_giveWaitingUp (dN hc) hR1 ht) kv_yX0_giveWaitingUp ki_yX0_giveWaitingUp ks_yX0_giveWaitingUp km_X6_56 rfl (ci := 0) rfl rfl (dN hc).1 (by decide) rfl (Nat.le_of_ble_eq_true rfl) dX6_giveUp_17 (fun w1 I2 hx => ?_)
  have hfr := Dn_fr hx
  have hP2 := hP1.far hfr (by omega)
  obtain ⟨v, rfl, hxx⟩ := hx
  have hx := (show Cg _ _ _ _ _ _ _ from ⟨v, rfl, hxx⟩)
  refine q_rtV B (s_X6_kept hc hP2.1 hP2.2.1 hu hn) kv_yX6_kept ki_yX6_kept ks_yX6_kept km_X6_45 rfl (ci := 6) rfl rfl hc.1 (by decide) rfl (Nat.le_of_ble_eq_true rfl) dX6_giveUp_20 ?_
  exact q_iret BM rfl dX6_giveUp_23 ⟨rfl, Dn_fin hF hn hP1 hs hR1 hx (a_refG_neg) (fun _ => by obtain ⟨c, hc, e⟩ := a_strips_n (σ := σ) (t := t); rw [e]; exact nI_pos (by omega))⟩
set_option maxRecDepth 100000 in
set_option maxHeartbeats 4000000 in
theorem s_X6_giveUp_no {Sh : q_Sh} {I : q_Mem} {d u : Nat} {σ : a_A} {H : Nat → a_A} (hc : dOk Sh d) (hD : Ds d I σ u H) {t : Int32} (ht : ¬ (0 ≤ t ∧ t < nI (a_T σ))) : q_Rp mX6_giveUp 3 [.ref d, .int t] Sh (I) (fun w J => w = some (.int (-1)) ∧ Ds d J σ u H ∧ FrD d I J) := by
  refine q_rp_of (by decide) (Nat.le_of_ble_eq_true rfl) fun Γ BM => ?_
  have B := BM.1
  obtain ⟨hR, n, hP⟩ := hD
  have hu := hP.2.2.1
  have hn := hP.2.2.2.1
  show q_W Γ mX6_giveUp 0 0 Sh (I) 0 [(0, .ref d), (1, .int t)] []
  refine q_aload_n B dX6_giveUp_0 rfl rfl ?_
  refine q_getR B kC_X6 (k := 2) (by decide) rfl kf_X6_22 hc.1 (dp hc) dX6_giveUp_1 ?_
  refine q_aload_n B dX6_giveUp_4 rfl rfl ?_
  refine q_getR B kC_X6 (k := 0) (by decide) rfl kf_X6_10 hc.1 (dn hc) dX6_giveUp_5 ?_
  refine q_rpV B (s_X4_note (dP hc) hP.2.1 hn (dN hc) hR (by omega)) kv_yX4_note ki_yX4_note ks_yX4_note km_X6_37 rfl (ci := 4) rfl rfl (dP hc).1 (by decide) rfl (Nat.le_of_ble_eq_true rfl) dX6_giveUp_8 (fun w0 I1 hx => ?_)
  obtain ⟨rfl, hs, hF⟩ := hx
  have hs : Rs (d + 95 + 2 + 47 * n) I1 σ := hs
  have hR1 : Rs (d + 1) I1 σ := hR.far hF (by omega)
  have hP1 := hP.note hF
  refine q_aload_n B dX6_giveUp_11 rfl rfl ?_
  refine q_aload_n B dX6_giveUp_12 rfl rfl ?_
  refine q_getR B kC_X6 (k := 0) (by decide) rfl kf_X6_10 hc.1 (dn hc) dX6_giveUp_13 ?_
  refine q_iload_n B dX6_giveUp_16 rfl rfl ?_
  refine q_rtV B (s_X0_giveWaitingUp_no (dN hc) hR1 ht) kv_yX0_giveWaitingUp ki_yX0_giveWaitingUp ks_yX0_giveWaitingUp km_X6_56 rfl (ci := 0) rfl rfl (dN hc).1 (by decide) rfl (Nat.le_of_ble_eq_true rfl) dX6_giveUp_17 ?_
  refine q_rtV B (s_X6_kept hc hP1.1 hP1.2.1 hu hn) kv_yX6_kept ki_yX6_kept ks_yX6_kept km_X6_45 rfl (ci := 6) rfl rfl hc.1 (by decide) rfl (Nat.le_of_ble_eq_true rfl) dX6_giveUp_20 ?_
  exact q_iret BM rfl dX6_giveUp_23 ⟨rfl, rfl, (Ds.nt hR hP hF).1, (Ds.nt hR hP hF).2⟩
