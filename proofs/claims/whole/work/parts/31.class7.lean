theorem a_upd_same {σ : a_A} {k : Nat} {v : Int32} (h : σ k = v) : upd σ k v = σ := by
  funext j
  by_cases e : j = k
  · subst e; rw [q_upd_at, h]
  · rw [q_upd_ne e]
theorem a_min3_at {σ : a_A} {i j : Nat} (h1 : j ≠ 57 + 7 * i + 2) (h2 : j ≠ 57 + 7 * i + 4) : a_min3 i σ j = σ j := by
  unfold a_min3
  split
  · rw [q_upd_ne h2, q_upd_ne h1]
  · rfl
theorem a_min3_how {T F t : Nat} {σ : a_A} (ht : t < T) (hW : a_W T F σ) : a_how (a_min3 t σ) (nI 2) = a_how σ (nI 2) := by
  rw [a_how_one hW (a_min3_W ht hW) ht (fun i hi => a_min3_at (by omega) (by omega))]
  have e : ((if a_min3 t σ (57 + 7 * t + 4) = nI 2 then 1 else 0) : Int32) = if σ (57 + 7 * t + 4) = nI 2 then 1 else 0 := by
    unfold a_min3
    by_cases h : σ (57 + 7 * t + 4) = 0
    · rw [if_pos h, q_upd_at, h]
      by_cases h2 : σ (57 + 7 * t + 2) - 1 = 0
      · rw [if_pos h2]; decide
      · rw [if_neg h2]
    · rw [if_neg h]
  rw [e, Int32.sub_self, Int32.add_zero]
theorem a_takes_at {T F f j : Nat} {σ : a_A} (hW : a_W T F σ) (h1 : ∀ t, σ (57 + 7 * t + 4) = 0 → j ≠ 57 + 7 * t + 4) (h2 : j ≠ 27 + 6 * f + 2) : a_takes σ f j = σ j := by
  unfold a_takes
  try dsimp only
  rcases a_next_in hW (σ (27 + 6 * f)) with hn | ⟨t, ht, hn, hw⟩
  · rw [if_pos hn]
  · have hT := hW.1.2
    rw [hn, if_neg (a_nI_ne6 (by omega)), show a_n (nI t) = t from nI_clamp (by omega), q_upd_ne h2, q_upd_ne (h1 t hw)]
theorem a_min1_how {T F f : Nat} {σ : a_A} (hf : f < F) (hW : a_W T F σ) : a_how (a_min1 f σ) (nI 2) = a_how σ (nI 2) := by
  have hF := hW.2.1.2
  unfold a_min1
  by_cases h0 : σ (27 + 6 * f + 2) = 0
  · rw [if_pos h0]
    have hW2 := a_takes_W hW hf
    rcases a_next_in hW (σ (27 + 6 * f)) with hn | ⟨t, ht, hn, hw⟩
    · unfold a_takes
      try dsimp only
      rw [if_pos hn]
    · have hT := hW.1.2
      have et : a_takes σ f = upd (upd σ (57 + 7 * t + 4) (nI 1)) (27 + 6 * f + 2) (nI t + 1) := by
        unfold a_takes
        try dsimp only
        rw [hn, if_neg (a_nI_ne6 (by omega)), show a_n (nI t) = t from nI_clamp (by omega)]
      rw [et] at hW2 ⊢
      rw [a_how_one hW hW2 ht (fun i hi => by rw [q_upd_ne (by omega), q_upd_ne (by omega)]), q_upd_ne (by omega), q_upd_at, hw]
      rw [show ((if nI 1 = nI 2 then 1 else 0) - (if (0 : Int32) = nI 2 then 1 else 0) : Int32) = 0 from by decide, Int32.add_zero]
  · rw [if_neg h0]
theorem a_foldhow {T F N : Nat} {g : Nat → a_A → a_A} (hg : ∀ i σ, i < N → a_W T F σ → a_W T F (g i σ)) (hh : ∀ i σ, i < N → a_W T F σ → a_how (g i σ) (nI 2) = a_how σ (nI 2)) {σ : a_A} (hW : a_W T F σ) : ∀ n, n ≤ N → a_how (q_fold g n σ) (nI 2) = a_how σ (nI 2) := by
  intro n
  induction n with
  | zero => intro _; rfl
  | succ n ih =>
    intro h
    show a_how (g n (q_fold g n σ)) (nI 2) = _
    rw [hh n _ (by omega) (a_fold_W hg n σ (by omega) hW), ih (by omega)]
theorem a_tele (x y z : Int32) : (x - y) + (z - x) = z - y := by
  rw [Int32.add_comm, Int32.sub_eq_add_neg, Int32.sub_eq_add_neg x, ← Int32.add_assoc, Int32.add_assoc z, Int32.add_left_neg, Int32.add_zero, ← Int32.sub_eq_add_neg]
theorem a_minute_how {T F : Nat} {σ s1 s2 : a_A} (hW : a_W T F σ) (e1 : q_fold a_min1 F σ = s1) (e2 : q_fold a_min2 F s1 = s2) : a_how (a_minute σ) (nI 2) = a_how s2 (nI 2) ∧ a_how s1 (nI 2) = a_how σ (nI 2) := by
  have hW1 : a_W T F s1 := by rw [← e1]; exact a_fold_W (f := a_min1) (N := F) (fun j s hj hs => a_min1_W hj hs) F σ (Nat.le_refl F) hW
  have hW2 : a_W T F s2 := by rw [← e2]; exact a_fold_W (f := a_min2) (N := F) (fun j s hj hs => a_min2_W hj hs) F s1 (Nat.le_refl F) hW1
  have hW3 : a_W T F (q_fold a_min3 T s2) := a_fold_W (f := a_min3) (N := T) (fun j s hj hs => a_min3_W hj hs) T s2 (Nat.le_refl T) hW2
  constructor
  · unfold a_minute
    try dsimp only
    rw [a_W_F hW, a_W_T hW, e1, e2, a_how_congr hW3 (a_W_free hW3 (Or.inl rfl)) (fun i hi => q_upd_ne (by omega))]
    exact a_foldhow (N := T) (fun i σ hi h => a_min3_W hi h) (fun i σ hi h => a_min3_how hi h) hW2 T (Nat.le_refl T)
  · rw [← e1]
    exact a_foldhow (N := F) (fun i σ hi h => a_min1_W hi h) (fun i σ hi h => a_min1_how hi h) hW F (Nat.le_refl F)
theorem a_pat0 {p : Nat} (h1 : 1 ≤ p) (h2 : p ≤ 99) : 0 < nI p - 1 ↔ ¬ nI p - 1 = 0 := by
  have key : ∀ p, p ≤ 99 → 1 ≤ p → (0 < nI p - 1 ↔ ¬ nI p - 1 = 0) := by decide +kernel
  exact key p h2 h1
/-! nothing here: only time passes -/
theorem a_hereN_no {σ : a_A} : ∀ n i, a_hereN σ n i = false → ∀ j, i ≤ j → j < i + n → ¬ σ (57 + 7 * j + 4) < nI 2 := by
  intro n
  induction n with
  | zero => intro i _ j h1 h2; omega
  | succ n ih =>
    intro i h j h1 h2
    unfold a_hereN at h
    by_cases e : σ (57 + 7 * i + 4) < nI 2
    · rw [if_pos e] at h; exact absurd h (by decide)
    · rw [if_neg e] at h
      by_cases e2 : j = i
      · subst e2; exact e
      · exact ih (i + 1) h j (by omega) (by omega)
theorem a_hereN_of {σ : a_A} : ∀ n i, (∀ j, i ≤ j → j < i + n → ¬ σ (57 + 7 * j + 4) < nI 2) → a_hereN σ n i = false := by
  intro n
  induction n with
  | zero => intro i _; rfl
  | succ n ih =>
    intro i h
    unfold a_hereN
    rw [if_neg (h i (Nat.le_refl i) (by omega))]
    exact ih (i + 1) (fun j h1 h2 => h j (by omega) (by omega))
theorem a_fold_id {g : Nat → a_A → a_A} {σ : a_A} {N : Nat} (h : ∀ i, i < N → g i σ = σ) : ∀ n, n ≤ N → q_fold g n σ = σ := by
  intro n
  induction n with
  | zero => intro _; rfl
  | succ n ih => intro q; show g n (q_fold g n σ) = σ; rw [ih (by omega), h n (by omega)]
theorem a_idle {T F : Nat} {σ : a_A} (hW : a_W T F σ) (h : a_here σ = false) : a_minute σ = upd σ 0 (σ 0 + 1) := by
  have hT := hW.1.2
  have hno : ∀ j, j < T → ¬ σ (57 + 7 * j + 4) < nI 2 := fun j hj => a_hereN_no (a_T σ) 0 h j (Nat.zero_le j) (by rw [a_W_T hW]; omega)
  have h0 : ∀ j, j < T → ¬ σ (57 + 7 * j + 4) = 0 := fun j hj q => hno j hj (by rw [q]; decide)
  have hf0 : ∀ f, f < F → σ (27 + 6 * f + 2) = 0 := fun f hf => by
    obtain ⟨y, a, b, c⟩ := hW.2.2.2.2.2.2.1 f hf
    rcases Nat.eq_zero_or_pos y with q | q
    · rw [b, q]; rfl
    · exact absurd (by rw [c (y - 1) (by omega)]; decide) (hno (y - 1) (by omega))
  unfold a_minute
  try dsimp only
  rw [a_W_F hW, a_W_T hW]
  have e1 : q_fold a_min1 F σ = σ := a_fold_id (N := F) (fun f hf => by
    unfold a_min1
    rw [if_pos (hf0 f hf)]
    unfold a_takes
    try dsimp only
    rcases a_next_in hW (σ (27 + 6 * f)) with q | ⟨j, hj, e, hw⟩
    · rw [if_pos q]
    · exact absurd hw (h0 j hj)) F (Nat.le_refl F)
  have e2 : q_fold a_min2 F σ = σ := a_fold_id (N := F) (fun f hf => by
    unfold a_min2
    rw [hf0 f hf]
    rfl) F (Nat.le_refl F)
  have e3 : q_fold a_min3 T σ = σ := a_fold_id (N := T) (fun i hi => by
    unfold a_min3
    rw [if_neg (h0 i hi)]) T (Nat.le_refl T)
  rw [e1, e2, e3]
theorem a_here_0 {T F : Nat} {σ : a_A} {v : Int32} (hW : a_W T F σ) (h : a_here σ = false) : a_here (upd σ 0 v) = false := by
  have hno := a_hereN_no (a_T σ) 0 h
  unfold a_here
  rw [a_W_T (a_W_free hW (Or.inl rfl)), ← a_W_T hW]
  exact a_hereN_of _ _ fun j h1 h2 => by rw [q_upd_ne (by omega)]; exact hno j h1 h2
theorem a_upd2 {σ : a_A} {k : Nat} {v x : Int32} : upd (upd σ k v) k x = upd σ k x := by
  funext j
  by_cases e : j = k
  · subst e; rw [q_upd_at, q_upd_at]
  · rw [q_upd_ne e, q_upd_ne e, q_upd_ne e]
theorem a_minutes_s (σ : a_A) (n : Nat) : a_minutes (n + 1) σ = a_minute (a_minutes n σ) := rfl
theorem a_fold_at {g : Nat → a_A → a_A} {j N : Nat} (h : ∀ i σ, i < N → g i σ j = σ j) {σ : a_A} : ∀ n, n ≤ N → q_fold g n σ j = σ j := by
  intro n
  induction n with
  | zero => intro _; rfl
  | succ n ih => intro q; show g n (q_fold g n σ) j = σ j; rw [h n _ (by omega), ih (by omega)]
theorem a_min1_0 {f : Nat} {σ : a_A} : a_min1 f σ 0 = σ 0 := by
  unfold a_min1
  split
  · unfold a_takes
    try dsimp only
    split
    · rfl
    · rw [q_upd_ne (by omega), q_upd_ne (by omega)]
  · rfl
theorem a_min2_0 {f : Nat} {σ : a_A} : a_min2 f σ 0 = σ 0 := by
  unfold a_min2
  split
  · unfold a_works
    try dsimp only
    generalize hr : a_work1 (upd σ (27 + 6 * f + 5) (σ (27 + 6 * f + 5) + 1)) f (a_n (σ (27 + 6 * f + 2)) - 1) = r
    have e : r.1 0 = σ 0 := by
      rw [← hr, a_work1_at (by omega) (by omega) (by omega) (by omega) (by omega), q_upd_ne (by omega)]
    split
    · unfold a_givesUp
      try dsimp only
      rw [q_upd_ne (by omega), q_upd_ne (by omega), a_strips_at (by omega) (by omega), e]
    · split
      · rw [q_upd_ne (by omega), q_upd_ne (by omega), q_upd_ne (by omega), e]
      · exact e
  · rfl
theorem a_minute_0 {σ : a_A} : a_minute σ 0 = σ 0 + 1 := by
  unfold a_minute
  try dsimp only
  rw [q_upd_at, a_fold_at (N := a_T σ) (fun i σ hi => a_min3_at (by omega) (by omega)) _ (Nat.le_refl _), a_fold_at (N := a_F σ) (fun i σ hi => a_min2_0) _ (Nat.le_refl _), a_fold_at (N := a_F σ) (fun i σ hi => a_min1_0) _ (Nat.le_refl _)]
theorem a_minutes_0 {σ : a_A} : ∀ n, a_minutes n σ 0 = σ 0 + nI n := by
  intro n
  induction n with
  | zero => exact (Int32.add_zero _).symm
  | succ n ih => rw [a_minutes_s, a_minute_0, ih, Int32.add_assoc, a_inc]
theorem a_idles {T F : Nat} {σ : a_A} (hW : a_W T F σ) {i : Nat} (h : a_here (a_minutes i σ) = false) : ∀ k, a_minutes (i + k) σ = upd (a_minutes i σ) 0 (a_minutes (i + k) σ 0) ∧ a_here (a_minutes (i + k) σ) = false := by
  intro k
  induction k with
  | zero => exact ⟨(a_upd_same rfl).symm, h⟩
  | succ k ih =>
    have e : a_minutes (i + (k + 1)) σ = upd (a_minutes (i + k) σ) 0 (a_minutes (i + k) σ 0 + 1) := by
      show a_minute (a_minutes (i + k) σ) = _
      exact a_idle (a_minutes_W hW _) ih.2
    constructor
    · rw [e, q_upd_at]
      conv => lhs; rw [ih.1]
      rw [a_upd2, q_upd_at]
    · rw [e]; exact a_here_0 (a_minutes_W hW _) ih.2
set_option maxRecDepth 100000 in
set_option maxHeartbeats 4000000 in
theorem s_X0_losePatience {Sh : q_Sh} {I : q_Mem} {σ : a_A} {b T F : Nat} (hc : cOk Sh b) (hR : Rc T F b I σ) : q_Rp mX0_losePatience 2 [.ref b] Sh (I) (fun w I2 => w = none ∧ Rc T F b I2 (q_fold a_min3 T σ) ∧ Fr b I I2) := by
  refine q_rp_of (by decide) (Nat.le_of_ble_eq_true rfl) fun Γ BM => ?_
  have B := BM.1
  have hT2 := hR.1.1.1
  have hF2 := hR.1.1.2
  show q_W Γ mX0_losePatience 0 0 Sh (I) 0 [(0, .ref b)] []
  refine q_iconst (v := nI 0) B dX0_losePatience_0 rfl ?_
  refine q_istore_n B dX0_losePatience_1 rfl (Nat.le_of_ble_eq_true rfl) rfl ?_
  have hl_2 : ∀ (n i : Nat) (σ1 : a_A) (J : q_Mem), i + n = T → (q_fold a_min3 i σ = σ1 ∧ Rc T F b J σ1 ∧ Fr b I J) → q_W Γ mX0_losePatience 0 0 Sh J 2 [(0, .ref b), (1, .int (nI i))] [] := by
    intro n
    induction n with
    | zero =>
      intro i σ1 J hin hinv
      have hi : i = T := by omega
      subst hi
      obtain ⟨e1, hR1, hF1⟩ := hinv
      have hT := hR1.1.2.1.2.1
      refine q_iload_n B dX0_losePatience_2 rfl rfl ?_
      refine q_aload_n B dX0_losePatience_3 rfl rfl ?_
      refine q_getI2 B kC_X0 (k := 1) (by decide) rfl kf_X0_15 hc.1 hT dX0_losePatience_4 ?_
      refine q_icmp_ge (tgt := 55) B dX0_losePatience_7 (by decide) (fun _ => ?_) (fun h => absurd (q_le (Nat.le_refl _) (by omega)) h)
      exact q_vret BM rfl dX0_losePatience_55 ⟨rfl, rfl, by rw [e1]; exact hR1, hF1⟩
    | succ n ih =>
      intro i σ1 J hin hinv
      have hiN : i < T := by omega
      obtain ⟨e1, hR1, hF1⟩ := hinv
      have hT := hR1.1.2.1.2.1
      have hW3 := a_min3_W hiN hR1.2.2
      have es : q_fold a_min3 (i + 1) σ = a_min3 i σ1 := by rw [← e1]; rfl
      refine q_iload_n B dX0_losePatience_2 rfl rfl ?_
      refine q_aload_n B dX0_losePatience_3 rfl rfl ?_
      refine q_getI2 B kC_X0 (k := 1) (by decide) rfl kf_X0_15 hc.1 hT dX0_losePatience_4 ?_
      refine q_icmp_ge (tgt := 55) B dX0_losePatience_7 (by decide) (fun h => absurd h (q_nle hiN (by omega))) (fun _ => ?_)
      refine q_aload_n B dX0_losePatience_10 rfl rfl ?_
      refine q_iload_n B dX0_losePatience_11 rfl rfl ?_
      refine q_rtV B (s_X0_thingAt hc hT hT2 hiN) kv_yX0_thingAt ki_yX0_thingAt ks_yX0_thingAt km_X0_42 rfl (ci := 0) rfl rfl hc.1 (by decide) rfl (Nat.le_of_ble_eq_true rfl) dX0_losePatience_12 ?_
      refine q_astore_n B dX0_losePatience_15 rfl (Nat.le_of_ble_eq_true rfl) rfl ?_
      refine q_aload_n B dX0_losePatience_16 rfl rfl ?_
      refine q_ifnull B dX0_losePatience_17 ?_
      refine q_aload_n B dX0_losePatience_20 rfl rfl ?_
      refine q_getI2 B kC_X5 (k := 4) (by decide) rfl kf_X0_82 (cT hc (i := i) (by omega)) ((hR1.1.2.2.1 i hiN).1 4 (by decide)) dX0_losePatience_21 ?_
      refine q_if_ne (tgt := 49) B dX0_losePatience_24 (by decide) (fun c_24 => ?_) (fun c_24 => ?_)
      · skip
        have em : a_min3 i σ1 = σ1 := if_neg c_24
        refine q_iinc2 (y := nI (i + 1)) B dX0_losePatience_49 rfl (q_inc1 _) (Nat.le_of_ble_eq_true rfl) rfl ?_
        refine q_goto (tgt := 2) B dX0_losePatience_52 (by decide) ?_
        first
          | exact q_tk (ih (i + 1) (a_min3 i σ1) (J) (by omega) ⟨es, by rw [em]; exact hR1, hF1⟩) rfl (q_ac rfl (q_ac rfl q_an))
          | exact q_tk (ih (i + 1) (a_min3 i σ1) (q_setA J (b + 4 + i) (upd (J (b + 4 + i)) 2 (σ1 (57 + 7 * i + 2) - 1))) (by omega) ⟨es, by rw [if_neg hz, a_upd_same ((q_upd_ne (by omega)).trans c_24)] at em; rw [em] at hW3 ⊢; exact ⟨hRa, Rw_keep hR1.2.1 hR1.2.2 hW3 (Kw.T (by decide)) (fun g hg => q_upd_ne (by omega)), hW3⟩, hF1.tr (Fr.set (by omega) (by omega))⟩) rfl (q_ac rfl (q_ac rfl q_an))
          | exact q_tk (ih (i + 1) (a_min3 i σ1) (q_setA (q_setA J (b + 4 + i) (upd (J (b + 4 + i)) 2 (σ1 (57 + 7 * i + 2) - 1))) (b + 4 + i) (upd (upd ((q_setA J (b + 4 + i) (upd (J (b + 4 + i)) 2 (σ1 (57 + 7 * i + 2) - 1))) (b + 4 + i)) 4 (nI 4)) 5 (-6))) (by omega) ⟨es, by rw [if_pos hz] at em; rw [em] at hW3 ⊢; exact ⟨Rd_end hRa (by omega), Rw_gone2 hR1.2.1 hR1.2.2 hW3 (Kw.x (Kw.T (by decide)) Kx.end) hiN (by rw [c_24]; decide) (fun g hg => by rw [q_upd_ne (by omega), q_upd_ne (by omega)]), hW3⟩, (hF1.tr (Fr.set (by omega) (by omega))).tr (Fr.set (by omega) (by omega))⟩) rfl (q_ac rfl (q_ac rfl q_an))
      · skip
        obtain ⟨p, hp1, hp2, ep⟩ := hR1.2.2.2.2.2.2.2.1 i hiN c_24
        have hRa := Rd_T (k := 2) (v := σ1 (57 + 7 * i + 2) - 1) hR1.1 (show i < 30 by omega) (by decide)
        have em : a_min3 i σ1 = upd (upd σ1 (57 + 7 * i + 2) (σ1 (57 + 7 * i + 2) - 1)) (57 + 7 * i + 4) (if σ1 (57 + 7 * i + 2) - 1 = 0 then nI 4 else 0) := if_pos c_24
        refine q_aload_n B dX0_losePatience_27 rfl rfl ?_
        refine q_dup B dX0_losePatience_28 rfl ?_
        refine q_getI2 B kC_X5 (k := 2) (by decide) rfl kf_X0_165 (cT hc (i := i) (by omega)) ((hR1.1.2.2.1 i hiN).1 2 (by decide)) dX0_losePatience_29 ?_
        refine q_iconst (v := 1) B dX0_losePatience_32 rfl ?_
        refine q_isub B dX0_losePatience_33 ?_
        refine q_putI2 B kC_X5 (k := 2) (by decide) rfl kf_X0_165 rfl rfl rfl (cT hc (i := i) (by omega)) dX0_losePatience_34 ?_
        refine q_aload_n B dX0_losePatience_37 rfl rfl ?_
        refine q_getI2 B kC_X5 (k := 2) (by decide) rfl kf_X0_165 (cT hc (i := i) (by omega)) ((hRa.2.2.1 i hiN).1 2 (by decide)) dX0_losePatience_38 ?_
        refine q_top (q_upd_at _ _ _) ?_
        refine q_if_gt (tgt := 49) B dX0_losePatience_41 (by decide) (fun c_41 => ?_) (fun c_41 => ?_)
        · skip
          have hz : ¬ σ1 (57 + 7 * i + 2) - 1 = 0 := by rw [ep] at c_41 ⊢; exact (a_pat0 hp1 hp2).mp c_41
          refine q_iinc2 (y := nI (i + 1)) B dX0_losePatience_49 rfl (q_inc1 _) (Nat.le_of_ble_eq_true rfl) rfl ?_
          refine q_goto (tgt := 2) B dX0_losePatience_52 (by decide) ?_
          first
            | exact q_tk (ih (i + 1) (a_min3 i σ1) (J) (by omega) ⟨es, by rw [em]; exact hR1, hF1⟩) rfl (q_ac rfl (q_ac rfl q_an))
            | exact q_tk (ih (i + 1) (a_min3 i σ1) (q_setA J (b + 4 + i) (upd (J (b + 4 + i)) 2 (σ1 (57 + 7 * i + 2) - 1))) (by omega) ⟨es, by rw [if_neg hz, a_upd_same ((q_upd_ne (by omega)).trans c_24)] at em; rw [em] at hW3 ⊢; exact ⟨hRa, Rw_keep hR1.2.1 hR1.2.2 hW3 (Kw.T (by decide)) (fun g hg => q_upd_ne (by omega)), hW3⟩, hF1.tr (Fr.set (by omega) (by omega))⟩) rfl (q_ac rfl (q_ac rfl q_an))
            | exact q_tk (ih (i + 1) (a_min3 i σ1) (q_setA (q_setA J (b + 4 + i) (upd (J (b + 4 + i)) 2 (σ1 (57 + 7 * i + 2) - 1))) (b + 4 + i) (upd (upd ((q_setA J (b + 4 + i) (upd (J (b + 4 + i)) 2 (σ1 (57 + 7 * i + 2) - 1))) (b + 4 + i)) 4 (nI 4)) 5 (-6))) (by omega) ⟨es, by rw [if_pos hz] at em; rw [em] at hW3 ⊢; exact ⟨Rd_end hRa (by omega), Rw_gone2 hR1.2.1 hR1.2.2 hW3 (Kw.x (Kw.T (by decide)) Kx.end) hiN (by rw [c_24]; decide) (fun g hg => by rw [q_upd_ne (by omega), q_upd_ne (by omega)]), hW3⟩, (hF1.tr (Fr.set (by omega) (by omega))).tr (Fr.set (by omega) (by omega))⟩) rfl (q_ac rfl (q_ac rfl q_an))
        · skip
          have hz : σ1 (57 + 7 * i + 2) - 1 = 0 := by rw [ep] at c_41 ⊢; exact Decidable.not_not.mp (fun q => c_41 ((a_pat0 hp1 hp2).mpr q))
          refine q_aload_n B dX0_losePatience_44 rfl rfl ?_
          refine q_iconst (v := nI 4) B dX0_losePatience_45 rfl ?_
          refine q_rtV B (s_end (cT hc (i := i) (by omega))) kv_yX5_end ki_yX5_end ks_yX5_end km_X0_144 rfl (ci := 5) rfl rfl (cT hc (i := i) (by omega)) (by decide) rfl (Nat.le_of_ble_eq_true rfl) dX0_losePatience_46 ?_
          refine q_iinc2 (y := nI (i + 1)) B dX0_losePatience_49 rfl (q_inc1 _) (Nat.le_of_ble_eq_true rfl) rfl ?_
          refine q_goto (tgt := 2) B dX0_losePatience_52 (by decide) ?_
          first
            | exact q_tk (ih (i + 1) (a_min3 i σ1) (J) (by omega) ⟨es, by rw [em]; exact hR1, hF1⟩) rfl (q_ac rfl (q_ac rfl q_an))
            | exact q_tk (ih (i + 1) (a_min3 i σ1) (q_setA J (b + 4 + i) (upd (J (b + 4 + i)) 2 (σ1 (57 + 7 * i + 2) - 1))) (by omega) ⟨es, by rw [if_neg hz, a_upd_same ((q_upd_ne (by omega)).trans c_24)] at em; rw [em] at hW3 ⊢; exact ⟨hRa, Rw_keep hR1.2.1 hR1.2.2 hW3 (Kw.T (by decide)) (fun g hg => q_upd_ne (by omega)), hW3⟩, hF1.tr (Fr.set (by omega) (by omega))⟩) rfl (q_ac rfl (q_ac rfl q_an))
            | exact q_tk (ih (i + 1) (a_min3 i σ1) (q_setA (q_setA J (b + 4 + i) (upd (J (b + 4 + i)) 2 (σ1 (57 + 7 * i + 2) - 1))) (b + 4 + i) (upd (upd ((q_setA J (b + 4 + i) (upd (J (b + 4 + i)) 2 (σ1 (57 + 7 * i + 2) - 1))) (b + 4 + i)) 4 (nI 4)) 5 (-6))) (by omega) ⟨es, by rw [if_pos hz] at em; rw [em] at hW3 ⊢; exact ⟨Rd_end hRa (by omega), Rw_gone2 hR1.2.1 hR1.2.2 hW3 (Kw.x (Kw.T (by decide)) Kx.end) hiN (by rw [c_24]; decide) (fun g hg => by rw [q_upd_ne (by omega), q_upd_ne (by omega)]), hW3⟩, (hF1.tr (Fr.set (by omega) (by omega))).tr (Fr.set (by omega) (by omega))⟩) rfl (q_ac rfl (q_ac rfl q_an))
  exact q_tk (hl_2 T 0 σ I (by omega) ⟨rfl, hR, Fr.rf⟩) rfl (q_ac rfl (q_ac rfl q_an))
