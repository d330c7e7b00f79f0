theorem mp_p12 (ob : a_A) (a : Nat) (u : Bool) (v : Int32) : upd (mp ob a u) 12 v = mp (upd ob 12 v) a u := by
  funext k
  by_cases h : k = 12
  · subst h; simp [mp, upd]
  · by_cases h2 : k = 10 <;> by_cases h3 : k = 9 <;> simp [mp, upd, h, h2, h3]
theorem a_upd_upd (σ : a_A) (k : Nat) (x y : Int32) : upd (upd σ k x) k y = upd σ k y := by
  funext j
  by_cases h : j = k <;> simp [upd, h]
theorem p_rl_false (P : a_A) (len : Nat) : ∀ k n O a, p_rl P len k n O a false = (n, O, a, false) := by
  intro k n O a
  cases k with
  | zero => rfl
  | succ k => unfold p_rl; rw [if_neg (by simp)]
/-! orders as the reference keeps them -/
def a_refO (σ X : a_A) (n : Nat) : Int32 :=
  if X (5 * n) = nI 43 then a_refT σ (X (5 * n + 1)) (X (5 * n + 2)) (X (5 * n + 3)) (X (5 * n + 4)) else if X (5 * n) = nI 102 then a_refF σ (X (5 * n + 1)) (X (5 * n + 2)) else if X (5 * n) = nI 100 then a_refD (X (5 * n + 1)) (X (5 * n + 2)) else a_refP σ (X (5 * n + 1))
def a_doO (σ X : a_A) (n : Nat) : a_A :=
  if X (5 * n) = nI 43 then a_comes σ (X (5 * n + 1)) (X (5 * n + 2)) (X (5 * n + 3)) (X (5 * n + 4)) else if X (5 * n) = nI 102 then a_comesF σ (X (5 * n + 1)) (X (5 * n + 2)) else if X (5 * n) = nI 100 then upd σ (3 + a_n (X (5 * n + 1))) (X (5 * n + 2)) else a_minutes (a_n (X (5 * n + 1))) σ
def a_co (X : a_A) : Nat → Nat → a_A → Nat × a_A
  | 0, n, σ => (n, σ)
  | k + 1, n, σ => if a_refO σ X n = 0 then a_co X k (n + 1) (a_doO σ X n) else (n, σ)
theorem a_mask_of {b : Int32} {m : Nat} (hm : m < 256) (h : b &&& (nI m ^^^ (-1)) = 0) : ∃ r, r < 256 ∧ b = nI r := by
  have h1 : b.toBitVec &&& ~~~(nI m).toBitVec = 0#32 := by
    have := congrArg Int32.toBitVec h
    simpa using this
  have h2 : b.toBitVec &&& (nI m).toBitVec = b.toBitVec := by
    apply BitVec.eq_of_getLsbD_eq
    intro i hi
    have h3 := congrArg (fun x => BitVec.getLsbD x i) h1
    have h4 : decide (i < 32) = true := by simpa using hi
    simp only [BitVec.getLsbD_and, BitVec.getLsbD_not, h4, BitVec.getLsbD_zero, Bool.true_and] at h3
    rw [BitVec.getLsbD_and]
    revert h3
    cases b.toBitVec.getLsbD i <;> cases (nI m).toBitVec.getLsbD i <;> simp
  have h5 : (nI m).toBitVec.toNat = m := by
    show (BitVec.ofNat 32 m).toNat = m
    rw [BitVec.toNat_ofNat]
    omega
  have h6 : b.toBitVec.toNat ≤ m := by
    rw [← h2, BitVec.toNat_and, h5]
    exact Nat.and_le_right
  refine ⟨b.toBitVec.toNat, by omega, ?_⟩
  apply Int32.toBitVec_inj.mp
  show b.toBitVec = BitVec.ofNat 32 b.toBitVec.toNat
  simp
theorem a_pm_lt (k : Nat) : a_pm k < 256 := by unfold a_pm; split <;> omega
theorem a_drw_W {T F j : Nat} {σ : a_A} {m : Int32} (h : a_W T F σ) (hj : j < 8) (hm : ∃ x, x ≤ 99 ∧ m = nI x) : a_W T F (upd σ (3 + j) m) := by
  obtain ⟨x, hx, rfl⟩ := hm
  exact a_W_Q h hj hx
theorem a_doO_W {T F n : Nat} {σ X : a_A} (h : a_W T F σ) (hr : a_refO σ X n = 0) : ∃ T' F', a_W T' F' (a_doO σ X n) := by
  unfold a_refO at hr
  unfold a_doO
  by_cases h1 : X (5 * n) = nI 43
  · rw [if_pos h1] at hr ⊢
    obtain ⟨g1, ⟨k, hk, ek⟩, g3, ⟨p, hp1, hp2, ep⟩, -⟩ := a_refT_0 h hr
    obtain ⟨m, hm, em⟩ := a_mask_of (a_pm_lt _) g3
    rw [ek, em, ep]
    exact ⟨_, _, a_comes_W h g1 hk hm hp1 hp2⟩
  · rw [if_neg h1] at hr ⊢
    by_cases h2 : X (5 * n) = nI 102
    · rw [if_pos h2] at hr ⊢
      exact ⟨_, _, a_comesF_W h (a_refF_0 h hr).1⟩
    · rw [if_neg h2] at hr ⊢
      by_cases h3 : X (5 * n) = nI 100
      · rw [if_pos h3] at hr ⊢
        obtain ⟨⟨j, hj, ej⟩, hm⟩ := a_refD_0 hr
        have : a_n (X (5 * n + 1)) = j := by rw [ej]; exact nI_clamp (by omega)
        rw [this]
        exact ⟨_, _, a_drw_W h hj hm⟩
      · rw [if_neg h3]
        exact ⟨_, _, a_minutes_W h _⟩
/-- the memory behind a reading -/
def a_rdM (I : q_Mem) (o len : Nat) : q_Mem :=
  q_setA (q_setA I (o + 7) (p_all (I (o + 6)) len (I (o + 7))).2.1) o (mp (upd (I o) 12 (nI (p_all (I (o + 6)) len (I (o + 7))).1)) (p_all (I (o + 6)) len (I (o + 7))).2.2.1 (p_all (I (o + 6)) len (I (o + 7))).2.2.2)
theorem a_rdM_at {I : q_Mem} {o len l : Nat} (h1 : l ≠ o) (h2 : l ≠ o + 7) : a_rdM I o len l = I l := by
  unfold a_rdM
  rw [q_setA_ne h1, q_setA_ne h2]
theorem a_rdM_o {I : q_Mem} {o len k : Nat} (h1 : k ≠ 9) (h2 : k ≠ 10) (h3 : k ≠ 12) : a_rdM I o len o k = I o k := by
  unfold a_rdM
  rw [q_setA_at, mp_o h1 h2, q_upd_ne h3]
theorem p_rl_le (P : a_A) (len : Nat) : ∀ k n O a u, a ≤ len → (p_rl P len k n O a u).2.2.1 ≤ len := by
  intro k
  induction k with
  | zero => intro n O a u h; exact h
  | succ k ih =>
    intro n O a u ha
    unfold p_rl
    split
    · rename_i h
      split
      · exact ih _ _ _ _ (p_fin_le h.2)
      · exact ha
    · exact ha
theorem p_all_le (P : a_A) {len : Nat} (O : a_A) (hl : len ≤ 80) : (p_all P len O).2.2.1 ≤ len := by
  unfold p_all
  exact p_rl_le P len _ _ _ _ _ (p_fin_le (Nat.zero_le len))
set_option maxRecDepth 100000 in
set_option maxHeartbeats 4000000 in
theorem s_reads {Sh : q_Sh} {I : q_Mem} {o : Nat} (hm : mOk Sh o) {P ob O : a_A} {len : Nat} (hP : I (o + 6) = P) (hlen : len ≤ 80) (hl8 : ob 8 = nI len) : q_Rt mX7_reads 4 [.ref o] Sh (q_setA (q_setA I (o + 7) O) o (ob)) (some (.int (if (p_all P len O).2.2.2 = true then -6 else nI (p_all P len O).2.2.1))) (q_setA (q_setA I (o + 7) (p_all P len O).2.1) o (mp (upd ob 12 (nI (p_all P len O).1)) (p_all P len O).2.2.1 (p_all P len O).2.2.2)) := by
  refine q_rt_of (by decide) (Nat.le_of_ble_eq_true rfl) fun Γ BM => ?_
  have B := BM.1
  show q_W Γ mX7_reads 0 0 Sh (q_setA (q_setA I (o + 7) O) o (ob)) 0 [(0, .ref o)] []
  refine q_aload_n B dX7_reads_0 rfl rfl ?_
  refine q_iconst (v := nI 0) B dX7_reads_1 rfl ?_
  refine q_putIo B kC_X7 (k := 9) (by decide) rfl kf_X7_150 rfl rfl rfl hm.1 rfl dX7_reads_2 ?_
  refine q_aload_n B dX7_reads_5 rfl rfl ?_
  refine q_iconst (v := b2 true) B dX7_reads_6 rfl ?_
  refine q_putIo B kC_X7 (k := 10) (by decide) rfl kf_X7_153 rfl (b2_nar _) (b2_fit _) hm.1 (show _ = mp ob 0 true from rfl) dX7_reads_7 ?_
  refine q_aload_n B dX7_reads_10 rfl rfl ?_
  refine q_iconst (v := nI 0) B dX7_reads_11 rfl ?_
  refine q_putIo B kC_X7 (k := 12) (by decide) rfl kf_X7_164 rfl rfl rfl hm.1 (mp_p12 _ _ _ _) dX7_reads_12 ?_
  refine q_aload_n B dX7_reads_15 rfl rfl ?_
  refine q_rtV B (s_readsOrder (P := P) (len := len) (a := 0) (n := 0) (u := true) hm hP hlen ((q_upd_ne (by decide)).trans hl8) (Nat.zero_le _) (q_upd_at _ _ _) (by decide)) kv_yX7_readsOrder ki_yX7_readsOrder ks_yX7_readsOrder km_X7_176 rfl (ci := 7) rfl rfl hm.1 (by decide) rfl (Nat.le_of_ble_eq_true rfl) dX7_reads_16 ?_
  rw [mp_p12, a_upd_upd]
  have f1 := fun h => (p_fin_adv (P := P) (len := len) (n := 0) (a := 0) (O := O) (u := true) h).1
  have f2 := p_fin_le (P := P) (len := len) (n := 0) (O := O) (u := true) (Nat.zero_le len)
  have hl_19 : ∀ (n i : Nat) (k : Nat) (X : a_A) (x : Nat) (y : Bool), i + n = 81 → (p_rl P len n k X x y = p_all P len O ∧ x ≤ len ∧ (y = true → i ≤ x) ∧ k ≤ 27 ∧ (y = true → 3 * k ≤ x + 1)) → q_W Γ mX7_reads 0 0 Sh (q_setA (q_setA I (o + 7) X) o (mp (upd ob 12 (nI k)) x y)) 19 [(0, .ref o)] [] := by
    intro n
    induction n with
    | zero =>
      intro i k X x y hin hinv
      obtain ⟨g1, g2, g3, g4, g5⟩ := hinv
      have hy : y = false := by
        cases y with
        | false => rfl
        | true => exact absurd (g3 rfl) (by omega)
      refine q_aload_n B dX7_reads_19 rfl rfl ?_
      refine q_getIo B kC_X7 (k := 10) (by decide) rfl kf_X7_153 hm.1 (mp_10 _ _ _) dX7_reads_20 ?_
      refine q_if_eq (tgt := 61) B dX7_reads_23 (by decide) (fun _ => ?_) (fun h => absurd ((by rw [hy]; rfl)) h)
      have hR : p_all P len O = (k, X, x, y) := by first | (rw [← g1, hy]; exact p_rl_false P len _ _ _ _) | (rw [← g1]; unfold p_rl; exact if_neg (fun h => absurd h.2 hxl))
      refine q_aload_n B dX7_reads_61 rfl rfl ?_
      refine q_getIo B kC_X7 (k := 10) (by decide) rfl kf_X7_153 hm.1 (mp_10 _ _ _) dX7_reads_62 ?_
      refine q_if_eq (tgt := 73) B dX7_reads_65 (by decide) (fun c_65 => ?_) (fun c_65 => ?_)
      · skip
        refine q_aload_n B dX7_reads_73 rfl rfl ?_
        refine q_getIo B kC_X7 (k := 9) (by decide) rfl kf_X7_150 hm.1 (mp_9 _ _ _) dX7_reads_74 ?_
        exact q_iret BM rfl dX7_reads_77 ⟨by rw [hR]; first | (rw [if_pos (b2_1 c_65)]; done) | (rw [if_neg (by rw [b2_0 c_65]; exact Bool.false_ne_true)]; done), rfl, by rw [hR]⟩
      · skip
        refine q_bipush (v := -6) B dX7_reads_68 rfl ?_
        refine q_goto (tgt := 77) B dX7_reads_70 (by decide) ?_
        exact q_iret BM rfl dX7_reads_77 ⟨by rw [hR]; first | (rw [if_pos (b2_1 c_65)]; done) | (rw [if_neg (by rw [b2_0 c_65]; exact Bool.false_ne_true)]; done), rfl, by rw [hR]⟩
    | succ n ih =>
      intro i k X x y hin hinv
      have hiN : i < 81 := by omega
      obtain ⟨g1, g2, g3, g4, g5⟩ := hinv
      refine q_aload_n B dX7_reads_19 rfl rfl ?_
      refine q_getIo B kC_X7 (k := 10) (by decide) rfl kf_X7_153 hm.1 (mp_10 _ _ _) dX7_reads_20 ?_
      refine q_if_eq (tgt := 61) B dX7_reads_23 (by decide) (fun c_23 => ?_) (fun c_23 => ?_)
      · skip
        have hy := b2_0 c_23
        have hR : p_all P len O = (k, X, x, y) := by first | (rw [← g1, hy]; exact p_rl_false P len _ _ _ _) | (rw [← g1]; unfold p_rl; exact if_neg (fun h => absurd h.2 hxl))
        refine q_aload_n B dX7_reads_61 rfl rfl ?_
        refine q_getIo B kC_X7 (k := 10) (by decide) rfl kf_X7_153 hm.1 (mp_10 _ _ _) dX7_reads_62 ?_
        refine q_if_eq (tgt := 73) B dX7_reads_65 (by decide) (fun c_65 => ?_) (fun c_65 => ?_)
        · skip
          refine q_aload_n B dX7_reads_73 rfl rfl ?_
          refine q_getIo B kC_X7 (k := 9) (by decide) rfl kf_X7_150 hm.1 (mp_9 _ _ _) dX7_reads_74 ?_
          exact q_iret BM rfl dX7_reads_77 ⟨by rw [hR]; first | (rw [if_pos (b2_1 c_65)]; done) | (rw [if_neg (by rw [b2_0 c_65]; exact Bool.false_ne_true)]; done), rfl, by rw [hR]⟩
        · skip
          refine q_bipush (v := -6) B dX7_reads_68 rfl ?_
          refine q_goto (tgt := 77) B dX7_reads_70 (by decide) ?_
          exact q_iret BM rfl dX7_reads_77 ⟨by rw [hR]; first | (rw [if_pos (b2_1 c_65)]; done) | (rw [if_neg (by rw [b2_0 c_65]; exact Bool.false_ne_true)]; done), rfl, by rw [hR]⟩
      · skip
        have hyt := b2_1 c_23
        refine q_aload_n B dX7_reads_26 rfl rfl ?_
        refine q_getIo B kC_X7 (k := 9) (by decide) rfl kf_X7_150 hm.1 (mp_9 _ _ _) dX7_reads_27 ?_
        refine q_aload_n B dX7_reads_30 rfl rfl ?_
        refine q_getIo B kC_X7 (k := 8) (by decide) rfl kf_X7_135 hm.1 ((mp_o (by decide) (by decide)).trans ((q_upd_ne (by decide)).trans hl8)) dX7_reads_31 ?_
        refine q_icmp_ge (tgt := 61) B dX7_reads_34 (by decide) (fun c_34 => ?_) (fun c_34 => ?_)
        · skip
          have hxl : ¬ x < len := fun q => absurd c_34 (q_nle q (by omega))
          have hR : p_all P len O = (k, X, x, y) := by first | (rw [← g1, hy]; exact p_rl_false P len _ _ _ _) | (rw [← g1]; unfold p_rl; exact if_neg (fun h => absurd h.2 hxl))
          refine q_aload_n B dX7_reads_61 rfl rfl ?_
          refine q_getIo B kC_X7 (k := 10) (by decide) rfl kf_X7_153 hm.1 (mp_10 _ _ _) dX7_reads_62 ?_
          refine q_if_eq (tgt := 73) B dX7_reads_65 (by decide) (fun c_65 => ?_) (fun c_65 => ?_)
          · skip
            refine q_aload_n B dX7_reads_73 rfl rfl ?_
            refine q_getIo B kC_X7 (k := 9) (by decide) rfl kf_X7_150 hm.1 (mp_9 _ _ _) dX7_reads_74 ?_
            exact q_iret BM rfl dX7_reads_77 ⟨by rw [hR]; first | (rw [if_pos (b2_1 c_65)]; done) | (rw [if_neg (by rw [b2_0 c_65]; exact Bool.false_ne_true)]; done), rfl, by rw [hR]⟩
          · skip
            refine q_bipush (v := -6) B dX7_reads_68 rfl ?_
            refine q_goto (tgt := 77) B dX7_reads_70 (by decide) ?_
            exact q_iret BM rfl dX7_reads_77 ⟨by rw [hR]; first | (rw [if_pos (b2_1 c_65)]; done) | (rw [if_neg (by rw [b2_0 c_65]; exact Bool.false_ne_true)]; done), rfl, by rw [hR]⟩
        · skip
          have hxl : x < len := by
            rcases Nat.lt_or_ge x len with q | q
            · exact q
            · exact absurd (q_le q (by omega)) c_34
          refine q_aload_n B dX7_reads_37 rfl rfl ?_
          refine q_aload_n B dX7_reads_38 rfl rfl ?_
          refine q_bipush (v := nI 59) B dX7_reads_39 rfl ?_
          refine q_rtV B (s_takesSign (c := nI 59) hm ((q_setA_ne (by omega)).trans hP) hlen ((q_upd_ne (by decide)).trans hl8) g2) kv_yX7_takesSign ki_yX7_takesSign ks_yX7_takesSign km_X7_167 rfl (ci := 7) rfl rfl hm.1 (by decide) rfl (Nat.le_of_ble_eq_true rfl) dX7_reads_41 ?_
          generalize hb : p_T P len (nI 59) x y = b
          refine q_putIo B kC_X7 (k := 10) (by decide) rfl kf_X7_153 rfl (b2_nar _) (b2_fit _) hm.1 (mp_p10 _ _ _ _) dX7_reads_44 ?_
          refine q_aload_n B dX7_reads_47 rfl rfl ?_
          refine q_getIo B kC_X7 (k := 10) (by decide) rfl kf_X7_153 hm.1 (mp_10 _ _ _) dX7_reads_48 ?_
          refine q_if_eq (tgt := 19) B dX7_reads_51 (by decide) (fun c_51 => ?_) (fun c_51 => ?_)
          · skip
            have hbf := b2_0 c_51
            subst hbf
            have hnx : p_rl P len n k X x false = p_all P len O := by
              rw [← g1, p_rl_false]
              unfold p_rl
              rw [if_pos ⟨hyt, hxl⟩, if_neg (by rw [hb]; exact Bool.false_ne_true)]
            have hbk := ih (i + 1) k X x false (by omega) ⟨hnx, g2, fun h => (by cases h), g4, fun h => (by cases h)⟩
            exact q_tk hbk rfl (q_ac rfl q_an)
          · skip
            have hbt := b2_1 c_51
            subst hbt
            have hnx : p_rl P len n (pN (p_fin P len k X (x + 1) true).2.2 k) (p_fin P len k X (x + 1) true).1 (p_fin P len k X (x + 1) true).2.1 (p_fin P len k X (x + 1) true).2.2 = p_all P len O := by
              rw [← g1]
              conv => { rhs; unfold p_rl }
              rw [if_pos ⟨hyt, hxl⟩, if_pos hb]
            have e1 := fun h => (p_fin_adv (P := P) (len := len) (n := k) (a := x + 1) (O := X) (u := true) h).1
            have e2 := p_fin_le (P := P) (len := len) (n := k) (O := X) (u := true) (a := x + 1) hxl
            have e3 := g3 hyt
            have e4 := g5 hyt
            have hbk := ih (i + 1) _ _ _ _ (by omega) ⟨hnx, e2, fun h => by have := e1 h; omega, by unfold pN; split; (rename_i q; have := e1 q; omega); exact g4, fun h => by have := e1 h; unfold pN; rw [if_pos h]; omega⟩
            refine q_aload_n B dX7_reads_54 rfl rfl ?_
            refine q_rtV B (s_readsOrder (P := P) (len := len) (a := x + 1) (n := k) (u := true) hm hP hlen ((q_upd_ne (by decide)).trans hl8) hxl (q_upd_at _ _ _) (by omega)) kv_yX7_readsOrder ki_yX7_readsOrder ks_yX7_readsOrder km_X7_176 rfl (ci := 7) rfl rfl hm.1 (by decide) rfl (Nat.le_of_ble_eq_true rfl) dX7_reads_55 ?_
            rw [mp_p12, a_upd_upd]
            refine q_goto (tgt := 19) B dX7_reads_58 (by decide) ?_
            exact q_tk hbk rfl (q_ac rfl q_an)
  exact q_tk (hl_19 81 0 _ _ _ _ (by omega) ⟨rfl, f2, fun _ => Nat.zero_le _, by unfold pN; split <;> omega, fun h => by have := f1 h; unfold pN; rw [if_pos h]; omega⟩) rfl (q_ac rfl q_an)
theorem s_readsS {Sh : q_Sh} {I : q_Mem} {σ : a_A} {o : Nat} (hm : mOk Sh o) {len : Nat} (hlen : len ≤ 80) (hl8 : I o 8 = nI len) : q_Rt mX7_reads 4 [.ref o] Sh (q_setA I (o + 1) σ) (some (.int (if (p_all (I (o + 6)) len (I (o + 7))).2.2.2 = true then -6 else nI (p_all (I (o + 6)) len (I (o + 7))).2.2.1))) (q_setA (a_rdM I o len) (o + 1) σ) := by
  have h := s_reads (I := q_setA I (o + 1) σ) (P := I (o + 6)) (O := I (o + 7)) (ob := I o) (len := len) hm (q_setA_ne (by omega)) hlen hl8
  have e1 : q_setA (q_setA (q_setA I (o + 1) σ) (o + 7) (I (o + 7))) o (I o) = q_setA I (o + 1) σ := by
    rw [q_setA_comm (l := o + 1) (m := o + 7) (by omega), q_setA_self, q_setA_comm (l := o + 1) (m := o) (by omega), q_setA_self]
  rw [e1] at h
  refine q_rt_mono h rfl ?_
  unfold a_rdM
  rw [q_setA_comm (l := o + 1) (m := o + 7) (by omega), q_setA_comm (l := o + 1) (m := o) (by omega)]
set_option maxRecDepth 100000 in
set_option maxHeartbeats 4000000 in
theorem s_fault {Sh : q_Sh} {I : q_Mem} {σ : a_A} {o : Nat} (hm : mOk Sh o) (h0 : I o 0 = nI 0) {len : Nat} (hlen : len ≤ 80) (hl8 : I o 8 = nI len) : q_Rt mX7_fault 5 [.ref o] Sh (q_setA I (o + 1) σ) (some (.int (if (p_all (I (o + 6)) len (I (o + 7))).2.2.2 = true then -6 else nI (p_all (I (o + 6)) len (I (o + 7))).2.2.1))) (q_setA (a_rdM I o len) (o + 1) σ) := by
  refine q_rt_of (by decide) (Nat.le_of_ble_eq_true rfl) fun Γ BM => ?_
  have B := BM.1
  show q_W Γ mX7_fault 0 0 Sh (q_setA I (o + 1) σ) 0 [(0, .ref o)] []
  refine q_aload_n B dX7_fault_0 rfl rfl ?_
  refine q_iconst (v := nI 0) B dX7_fault_1 rfl ?_
  refine q_putSame B kC_X7 (k := 0) (by decide) rfl kf_X7_32 rfl rfl rfl hm.1 ((congrFun (q_setA_ne (by omega)) _).trans h0) dX7_fault_2 ?_
  refine q_aload_n B dX7_fault_5 rfl rfl ?_
  refine q_rtV B (s_readsS hm hlen hl8) kv_yX7_reads ki_yX7_reads ks_yX7_reads km_X7_179 rfl (ci := 7) rfl rfl hm.1 (by decide) rfl (Nat.le_of_ble_eq_true rfl) dX7_fault_6 ?_
  exact q_iret BM rfl dX7_fault_9 ⟨rfl, rfl, rfl⟩
set_option maxRecDepth 100000 in
set_option maxHeartbeats 4000000 in
theorem s_refuses {Sh : q_Sh} {I : q_Mem} {σ : a_A} {o : Nat} (hm : mOk Sh o) {X : a_A} (hX : I (o + 7) = X) {n : Nat} (hn : n ≤ 47) : q_Rt mX7_refuses 2 [.ref o, .int (nI (5 * n))] Sh (q_setA I (o + 1) σ) (some (.int (a_refO σ X n))) (q_setA I (o + 1) σ) := by
  refine q_rt_of (by decide) (Nat.le_of_ble_eq_true rfl) fun Γ BM => ?_
  have B := BM.1
  show q_W Γ mX7_refuses 0 0 Sh (q_setA I (o + 1) σ) 0 [(0, .ref o), (1, .int (nI (5 * n)))] []
  refine q_aload_n B dX7_refuses_0 rfl rfl ?_
  refine q_getR B kC_X7 (k := 11) (by decide) rfl kf_X7_29 hm.1 (mR_orders hm) dX7_refuses_1 ?_
  refine q_iload_n B dX7_refuses_4 rfl rfl ?_
  refine q_ialdO (n := 5 * n) B (by omega) (mA_orders hm) rfl (by omega) (by decide) dX7_refuses_5 ?_
  refine q_top (congrFun hX _) ?_
  
  by_cases h43 : X (5 * n) = nI 43
  · rw [h43]
    refine q_lookup (off := 34) (tgt := 40) B dX7_refuses_6 (by decide) (by decide) (by decide) ?_
    refine q_aload_n B dX7_refuses_40 rfl rfl ?_
    refine q_aload_n B dX7_refuses_41 rfl rfl ?_
    refine q_getR B kC_X7 (k := 11) (by decide) rfl kf_X7_29 hm.1 (mR_orders hm) dX7_refuses_42 ?_
    refine q_iload_n B dX7_refuses_45 rfl rfl ?_
    refine q_iconst (v := nI 1) B dX7_refuses_46 rfl ?_
    refine q_iadd B dX7_refuses_47 ?_
    refine q_ialdO (n := 5 * n + 1) B (by omega) (mA_orders hm) (by simp only [nI_add, q_nI_mul]) (by omega) (by decide) dX7_refuses_48 ?_
    refine q_top (congrFun hX _) ?_
    refine q_aload_n B dX7_refuses_49 rfl rfl ?_
    refine q_getR B kC_X7 (k := 11) (by decide) rfl kf_X7_29 hm.1 (mR_orders hm) dX7_refuses_50 ?_
    refine q_iload_n B dX7_refuses_53 rfl rfl ?_
    refine q_iconst (v := nI 2) B dX7_refuses_54 rfl ?_
    refine q_iadd B dX7_refuses_55 ?_
    refine q_ialdO (n := 5 * n + 2) B (by omega) (mA_orders hm) (by simp only [nI_add, q_nI_mul]) (by omega) (by decide) dX7_refuses_56 ?_
    refine q_top (congrFun hX _) ?_
    refine q_aload_n B dX7_refuses_57 rfl rfl ?_
    refine q_getR B kC_X7 (k := 11) (by decide) rfl kf_X7_29 hm.1 (mR_orders hm) dX7_refuses_58 ?_
    refine q_iload_n B dX7_refuses_61 rfl rfl ?_
    refine q_iconst (v := nI 3) B dX7_refuses_62 rfl ?_
    refine q_iadd B dX7_refuses_63 ?_
    refine q_ialdO (n := 5 * n + 3) B (by omega) (mA_orders hm) (by simp only [nI_add, q_nI_mul]) (by omega) (by decide) dX7_refuses_64 ?_
    refine q_top (congrFun hX _) ?_
    refine q_aload_n B dX7_refuses_65 rfl rfl ?_
    refine q_getR B kC_X7 (k := 11) (by decide) rfl kf_X7_29 hm.1 (mR_orders hm) dX7_refuses_66 ?_
    refine q_iload_n B dX7_refuses_69 rfl rfl ?_
    refine q_iconst (v := nI 4) B dX7_refuses_70 rfl ?_
    refine q_iadd B dX7_refuses_71 ?_
    refine q_ialdO (n := 5 * n + 4) B (by omega) (mA_orders hm) (by simp only [nI_add, q_nI_mul]) (by omega) (by decide) dX7_refuses_72 ?_
    refine q_top (congrFun hX _) ?_
    refine q_rtV B (s_refusesThing hm) kv_yX7_refusesThing ki_yX7_refusesThing ks_yX7_refusesThing km_X7_98 rfl (ci := 7) rfl rfl hm.1 (by decide) rfl (Nat.le_of_ble_eq_true rfl) dX7_refuses_73 ?_
    exact q_iret BM rfl dX7_refuses_76 ⟨by rw [a_refO, if_pos h43], rfl, rfl⟩
  by_cases h102 : X (5 * n) = nI 102
  · rw [h102]
    refine q_lookup (off := 71) (tgt := 77) B dX7_refuses_6 (by decide) (by decide) (by decide) ?_
    refine q_aload_n B dX7_refuses_77 rfl rfl ?_
    refine q_aload_n B dX7_refuses_78 rfl rfl ?_
    refine q_getR B kC_X7 (k := 11) (by decide) rfl kf_X7_29 hm.1 (mR_orders hm) dX7_refuses_79 ?_
    refine q_iload_n B dX7_refuses_82 rfl rfl ?_
    refine q_iconst (v := nI 1) B dX7_refuses_83 rfl ?_
    refine q_iadd B dX7_refuses_84 ?_
    refine q_ialdO (n := 5 * n + 1) B (by omega) (mA_orders hm) (by simp only [nI_add, q_nI_mul]) (by omega) (by decide) dX7_refuses_85 ?_
    refine q_top (congrFun hX _) ?_
    refine q_aload_n B dX7_refuses_86 rfl rfl ?_
    refine q_getR B kC_X7 (k := 11) (by decide) rfl kf_X7_29 hm.1 (mR_orders hm) dX7_refuses_87 ?_
    refine q_iload_n B dX7_refuses_90 rfl rfl ?_
    refine q_iconst (v := nI 2) B dX7_refuses_91 rfl ?_
    refine q_iadd B dX7_refuses_92 ?_
    refine q_ialdO (n := 5 * n + 2) B (by omega) (mA_orders hm) (by simp only [nI_add, q_nI_mul]) (by omega) (by decide) dX7_refuses_93 ?_
    refine q_top (congrFun hX _) ?_
    refine q_rtV B (s_refusesFixer hm) kv_yX7_refusesFixer ki_yX7_refusesFixer ks_yX7_refusesFixer km_X7_108 rfl (ci := 7) rfl rfl hm.1 (by decide) rfl (Nat.le_of_ble_eq_true rfl) dX7_refuses_94 ?_
    exact q_iret BM rfl dX7_refuses_97 ⟨by rw [a_refO, if_neg h43, if_pos h102], rfl, rfl⟩
  by_cases h100 : X (5 * n) = nI 100
  · rw [h100]
    refine q_lookup (off := 92) (tgt := 98) B dX7_refuses_6 (by decide) (by decide) (by decide) ?_
    refine q_aload_n B dX7_refuses_98 rfl rfl ?_
    refine q_getR B kC_X7 (k := 11) (by decide) rfl kf_X7_29 hm.1 (mR_orders hm) dX7_refuses_99 ?_
    refine q_iload_n B dX7_refuses_102 rfl rfl ?_
    refine q_iconst (v := nI 1) B dX7_refuses_103 rfl ?_
    refine q_iadd B dX7_refuses_104 ?_
    refine q_ialdO (n := 5 * n + 1) B (by omega) (mA_orders hm) (by simp only [nI_add, q_nI_mul]) (by omega) (by decide) dX7_refuses_105 ?_
    refine q_top (congrFun hX _) ?_
    refine q_aload_n B dX7_refuses_106 rfl rfl ?_
    refine q_getR B kC_X7 (k := 11) (by decide) rfl kf_X7_29 hm.1 (mR_orders hm) dX7_refuses_107 ?_
    refine q_iload_n B dX7_refuses_110 rfl rfl ?_
    refine q_iconst (v := nI 2) B dX7_refuses_111 rfl ?_
    refine q_iadd B dX7_refuses_112 ?_
    refine q_ialdO (n := 5 * n + 2) B (by omega) (mA_orders hm) (by simp only [nI_add, q_nI_mul]) (by omega) (by decide) dX7_refuses_113 ?_
    refine q_top (congrFun hX _) ?_
    refine q_rtS B s_refusesDrawer kv_yX7_refusesDrawer kt_yX7_refusesDrawer km_X7_114 rfl (by decide) rfl (Nat.le_of_ble_eq_true rfl) dX7_refuses_114 ?_
    exact q_iret BM rfl dX7_refuses_117 ⟨by rw [a_refO, if_neg h43, if_neg h102, if_pos h100], rfl, rfl⟩
  have g43 := a_toInt_ne (j := 43) (by decide) h43
  have g102 := a_toInt_ne (j := 102) (by decide) h102
  have g100 := a_toInt_ne (j := 100) (by decide) h100
  refine q_lookup (off := 112) (tgt := 118) B dX7_refuses_6 (by decide) (by simp [Op.lookupswitch.offset]; omega) (by decide) ?_
  refine q_aload_n B dX7_refuses_118 rfl rfl ?_
  refine q_aload_n B dX7_refuses_119 rfl rfl ?_
  refine q_getR B kC_X7 (k := 11) (by decide) rfl kf_X7_29 hm.1 (mR_orders hm) dX7_refuses_120 ?_
  refine q_iload_n B dX7_refuses_123 rfl rfl ?_
  refine q_iconst (v := nI 1) B dX7_refuses_124 rfl ?_
  refine q_iadd B dX7_refuses_125 ?_
  refine q_ialdO (n := 5 * n + 1) B (by omega) (mA_orders hm) (by simp only [nI_add, q_nI_mul]) (by omega) (by decide) dX7_refuses_126 ?_
  refine q_top (congrFun hX _) ?_
  refine q_rtV B (s_refusesPass hm) kv_yX7_refusesPass ki_yX7_refusesPass ks_yX7_refusesPass km_X7_120 rfl (ci := 7) rfl rfl hm.1 (by decide) rfl (Nat.le_of_ble_eq_true rfl) dX7_refuses_127 ?_
  exact q_iret BM rfl dX7_refuses_130 ⟨by rw [a_refO, if_neg h43, if_neg h102, if_neg h100], rfl, rfl⟩
set_option maxRecDepth 100000 in
set_option maxHeartbeats 4000000 in
theorem s_does {Sh : q_Sh} {I : q_Mem} {σ : a_A} {o : Nat} (hm : mOk Sh o) {T F : Nat} (hW : a_W T F σ) {X : a_A} (hX : I (o + 7) = X) {n : Nat} (hn : n ≤ 47) (hr : a_refO σ X n = 0) : q_Rt mX7_does 6 [.ref o, .int (nI (5 * n))] Sh (q_setA I (o + 1) σ) (none) (q_setA I (o + 1) (a_doO σ X n)) := by
  refine q_rt_of (by decide) (Nat.le_of_ble_eq_true rfl) fun Γ BM => ?_
  have B := BM.1
  show q_W Γ mX7_does 0 0 Sh (q_setA I (o + 1) σ) 0 [(0, .ref o), (1, .int (nI (5 * n)))] []
  refine q_aload_n B dX7_does_0 rfl rfl ?_
  refine q_getR B kC_X7 (k := 11) (by decide) rfl kf_X7_29 hm.1 (mR_orders hm) dX7_does_1 ?_
  refine q_iload_n B dX7_does_4 rfl rfl ?_
  refine q_ialdO (n := 5 * n) B (by omega) (mA_orders hm) rfl (by omega) (by decide) dX7_does_5 ?_
  refine q_top (congrFun hX _) ?_
  
  by_cases h43 : X (5 * n) = nI 43
  · rw [h43]
    refine q_lookup (off := 34) (tgt := 40) B dX7_does_6 (by decide) (by decide) (by decide) ?_
    refine q_aload_n B dX7_does_40 rfl rfl ?_
    refine q_aload_n B dX7_does_41 rfl rfl ?_
    refine q_getR B kC_X7 (k := 11) (by decide) rfl kf_X7_29 hm.1 (mR_orders hm) dX7_does_42 ?_
    refine q_iload_n B dX7_does_45 rfl rfl ?_
    refine q_iconst (v := nI 1) B dX7_does_46 rfl ?_
    refine q_iadd B dX7_does_47 ?_
    refine q_ialdO (n := 5 * n + 1) B (by omega) (mA_orders hm) (by simp only [nI_add, q_nI_mul]) (by omega) (by decide) dX7_does_48 ?_
    refine q_top (congrFun hX _) ?_
    refine q_aload_n B dX7_does_49 rfl rfl ?_
    refine q_getR B kC_X7 (k := 11) (by decide) rfl kf_X7_29 hm.1 (mR_orders hm) dX7_does_50 ?_
    refine q_iload_n B dX7_does_53 rfl rfl ?_
    refine q_iconst (v := nI 2) B dX7_does_54 rfl ?_
    refine q_iadd B dX7_does_55 ?_
    refine q_ialdO (n := 5 * n + 2) B (by omega) (mA_orders hm) (by simp only [nI_add, q_nI_mul]) (by omega) (by decide) dX7_does_56 ?_
    refine q_top (congrFun hX _) ?_
    refine q_aload_n B dX7_does_57 rfl rfl ?_
    refine q_getR B kC_X7 (k := 11) (by decide) rfl kf_X7_29 hm.1 (mR_orders hm) dX7_does_58 ?_
    refine q_iload_n B dX7_does_61 rfl rfl ?_
    refine q_iconst (v := nI 3) B dX7_does_62 rfl ?_
    refine q_iadd B dX7_does_63 ?_
    refine q_ialdO (n := 5 * n + 3) B (by omega) (mA_orders hm) (by simp only [nI_add, q_nI_mul]) (by omega) (by decide) dX7_does_64 ?_
    refine q_top (congrFun hX _) ?_
    refine q_aload_n B dX7_does_65 rfl rfl ?_
    refine q_getR B kC_X7 (k := 11) (by decide) rfl kf_X7_29 hm.1 (mR_orders hm) dX7_does_66 ?_
    refine q_iload_n B dX7_does_69 rfl rfl ?_
    refine q_iconst (v := nI 4) B dX7_does_70 rfl ?_
    refine q_iadd B dX7_does_71 ?_
    refine q_ialdO (n := 5 * n + 4) B (by omega) (mA_orders hm) (by simp only [nI_add, q_nI_mul]) (by omega) (by decide) dX7_does_72 ?_
    refine q_top (congrFun hX _) ?_
    refine q_rtV B (s_comes hm hW (by rw [a_refO, if_pos h43] at hr; exact (a_refT_0 hW hr).1)) kv_yX7_comes ki_yX7_comes ks_yX7_comes km_X7_105 rfl (ci := 7) rfl rfl hm.1 (by decide) rfl (Nat.le_of_ble_eq_true rfl) dX7_does_73 ?_
    refine q_pop B dX7_does_76 rfl ?_
    refine q_goto (tgt := 143) B dX7_does_77 (by decide) ?_
    exact q_vret BM rfl dX7_does_143 ⟨rfl, rfl, by rw [a_doO]; first | (rw [if_pos h43]; done) | (rw [if_neg h43, if_pos h102]; done) | (rw [if_neg h43, if_neg h102, if_pos h100, haj]; done) | (rw [if_neg h43, if_neg h102, if_neg h100, haj]; done)⟩
  by_cases h102 : X (5 * n) = nI 102
  · rw [h102]
    refine q_lookup (off := 74) (tgt := 80) B dX7_does_6 (by decide) (by decide) (by decide) ?_
    refine q_aload_n B dX7_does_80 rfl rfl ?_
    refine q_aload_n B dX7_does_81 rfl rfl ?_
    refine q_getR B kC_X7 (k := 11) (by decide) rfl kf_X7_29 hm.1 (mR_orders hm) dX7_does_82 ?_
    refine q_iload_n B dX7_does_85 rfl rfl ?_
    refine q_iconst (v := nI 1) B dX7_does_86 rfl ?_
    refine q_iadd B dX7_does_87 ?_
    refine q_ialdO (n := 5 * n + 1) B (by omega) (mA_orders hm) (by simp only [nI_add, q_nI_mul]) (by omega) (by decide) dX7_does_88 ?_
    refine q_top (congrFun hX _) ?_
    refine q_aload_n B dX7_does_89 rfl rfl ?_
    refine q_getR B kC_X7 (k := 11) (by decide) rfl kf_X7_29 hm.1 (mR_orders hm) dX7_does_90 ?_
    refine q_iload_n B dX7_does_93 rfl rfl ?_
    refine q_iconst (v := nI 2) B dX7_does_94 rfl ?_
    refine q_iadd B dX7_does_95 ?_
    refine q_ialdO (n := 5 * n + 2) B (by omega) (mA_orders hm) (by simp only [nI_add, q_nI_mul]) (by omega) (by decide) dX7_does_96 ?_
    refine q_top (congrFun hX _) ?_
    refine q_rtV B (s_comesFixer hm hW (by rw [a_refO, if_neg h43, if_pos h102] at hr; exact (a_refF_0 hW hr).1)) kv_yX7_comesFixer ki_yX7_comesFixer ks_yX7_comesFixer km_X7_111 rfl (ci := 7) rfl rfl hm.1 (by decide) rfl (Nat.le_of_ble_eq_true rfl) dX7_does_97 ?_
    refine q_pop B dX7_does_100 rfl ?_
    refine q_goto (tgt := 143) B dX7_does_101 (by decide) ?_
    exact q_vret BM rfl dX7_does_143 ⟨rfl, rfl, by rw [a_doO]; first | (rw [if_pos h43]; done) | (rw [if_neg h43, if_pos h102]; done) | (rw [if_neg h43, if_neg h102, if_pos h100, haj]; done) | (rw [if_neg h43, if_neg h102, if_neg h100, haj]; done)⟩
  by_cases h100 : X (5 * n) = nI 100
  · rw [h100]
    refine q_lookup (off := 98) (tgt := 104) B dX7_does_6 (by decide) (by decide) (by decide) ?_
    refine q_aload_n B dX7_does_104 rfl rfl ?_
    refine q_getR B kC_X7 (k := 1) (by decide) rfl kf_X7_7 hm.1 (mR_s hm) dX7_does_105 ?_
    refine q_iconst (v := nI 3) B dX7_does_108 rfl ?_
    refine q_aload_n B dX7_does_109 rfl rfl ?_
    refine q_getR B kC_X7 (k := 11) (by decide) rfl kf_X7_29 hm.1 (mR_orders hm) dX7_does_110 ?_
    refine q_iload_n B dX7_does_113 rfl rfl ?_
    refine q_iconst (v := nI 1) B dX7_does_114 rfl ?_
    refine q_iadd B dX7_does_115 ?_
    refine q_ialdO (n := 5 * n + 1) B (by omega) (mA_orders hm) (by simp only [nI_add, q_nI_mul]) (by omega) (by decide) dX7_does_116 ?_
    refine q_top (congrFun hX _) ?_
    rw [a_refO, if_neg h43, if_neg h102, if_pos h100] at hr
    obtain ⟨⟨j, hj, ej⟩, -⟩ := a_refD_0 hr
    have haj : a_n (X (5 * n + 1)) = j := by rw [ej]; exact nI_clamp (by omega)
    refine q_top ej ?_
    refine q_iadd B dX7_does_117 ?_
    refine q_aload_n B dX7_does_118 rfl rfl ?_
    refine q_getR B kC_X7 (k := 11) (by decide) rfl kf_X7_29 hm.1 (mR_orders hm) dX7_does_119 ?_
    refine q_iload_n B dX7_does_122 rfl rfl ?_
    refine q_iconst (v := nI 2) B dX7_does_123 rfl ?_
    refine q_iadd B dX7_does_124 ?_
    refine q_ialdO (n := 5 * n + 2) B (by omega) (mA_orders hm) (by simp only [nI_add, q_nI_mul]) (by omega) (by decide) dX7_does_125 ?_
    refine q_top (congrFun hX _) ?_
    refine q_iastS (n := 3 + j) B (mA_s hm) (by simp only [nI_add, q_nI_mul]) (by omega) (by decide) dX7_does_126 ?_
    refine q_goto (tgt := 143) B dX7_does_127 (by decide) ?_
    exact q_vret BM rfl dX7_does_143 ⟨rfl, rfl, by rw [a_doO]; first | (rw [if_pos h43]; done) | (rw [if_neg h43, if_pos h102]; done) | (rw [if_neg h43, if_neg h102, if_pos h100, haj]; done) | (rw [if_neg h43, if_neg h102, if_neg h100, haj]; done)⟩
  have g43 := a_toInt_ne (j := 43) (by decide) h43
  have g102 := a_toInt_ne (j := 102) (by decide) h102
  have g100 := a_toInt_ne (j := 100) (by decide) h100
  refine q_lookup (off := 124) (tgt := 130) B dX7_does_6 (by decide) (by simp [Op.lookupswitch.offset]; omega) (by decide) ?_
  refine q_aload_n B dX7_does_130 rfl rfl ?_
  refine q_aload_n B dX7_does_131 rfl rfl ?_
  refine q_getR B kC_X7 (k := 11) (by decide) rfl kf_X7_29 hm.1 (mR_orders hm) dX7_does_132 ?_
  refine q_iload_n B dX7_does_135 rfl rfl ?_
  refine q_iconst (v := nI 1) B dX7_does_136 rfl ?_
  refine q_iadd B dX7_does_137 ?_
  refine q_ialdO (n := 5 * n + 1) B (by omega) (mA_orders hm) (by simp only [nI_add, q_nI_mul]) (by omega) (by decide) dX7_does_138 ?_
  refine q_top (congrFun hX _) ?_
  rw [a_refO, if_neg h43, if_neg h102, if_neg h100] at hr
  obtain ⟨j, hj1, hj2, ej⟩ := a_refP_0 hr
  have haj : a_n (X (5 * n + 1)) = j := by rw [ej]; exact nI_clamp (by omega)
  refine q_top ej ?_
  refine q_rtV B (s_minutes hm hW (by omega)) kv_yX7_minutes ki_yX7_minutes ks_yX7_minutes km_X7_123 rfl (ci := 7) rfl rfl hm.1 (by decide) rfl (Nat.le_of_ble_eq_true rfl) dX7_does_139 ?_
  refine q_pop B dX7_does_142 rfl ?_
  exact q_vret BM rfl dX7_does_143 ⟨rfl, rfl, by rw [a_doO]; first | (rw [if_pos h43]; done) | (rw [if_neg h43, if_pos h102]; done) | (rw [if_neg h43, if_neg h102, if_pos h100, haj]; done) | (rw [if_neg h43, if_neg h102, if_neg h100, haj]; done)⟩
