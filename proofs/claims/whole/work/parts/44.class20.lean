/-! what is put on the pad, as the class reads it -/
def c_sg : Nat → Nat → Int64 → Nat
  | 0, n, _ => n
  | k + 1, n, r => if lg_cmp r 0 = 0 then n else if nI 33 ≤ a_lo r ∧ a_lo r ≤ nI 126 then c_sg k (n + 1) (a_sr r (nI 8)) else 0
theorem a_sr_n {x : Int64} {k : Nat} (hk : k < 64) : (a_sr x (nI k)).toUInt64.toNat = x.toUInt64.toNat / 2 ^ k := by
  have key : ∀ k, k < 64 → ((nI k).toInt64.toUInt64 &&& Int64.toUInt64 63) = UInt64.ofNat k := by decide +kernel
  have key2 : ∀ k, k < 64 → (UInt64.ofNat k).toNat % 64 = k := by decide +kernel
  have e2 : a_sr x (nI k) = (x.toUInt64 >>> UInt64.ofNat k).toInt64 := by unfold a_sr; rw [key k hk]
  rw [e2, UInt64.toUInt64_toInt64, UInt64.toNat_shiftRight, key2 k hk, Nat.shiftRight_eq_div_pow]
theorem a_lo_n (x : Int64) : a_lo x = nI (x.toUInt64.toNat % 256) := by
  unfold a_lo nI
  apply Int32.toBitVec_inj.mp
  rw [Int64.toBitVec_toInt32, Int64.toBitVec_and, BitVec.signExtend_eq_setWidth_of_le _ (by decide)]
  apply BitVec.eq_of_toNat_eq
  rw [BitVec.toNat_setWidth, BitVec.toNat_and]
  have h1 : (255 : Int64).toBitVec.toNat = 2 ^ 8 - 1 := by decide
  rw [h1, Nat.and_two_pow_sub_one_eq_mod]
  show _ = (BitVec.ofNat 32 (x.toUInt64.toNat % 256)).toNat
  rw [BitVec.toNat_ofNat]
  rfl
theorem a_u0 {r : Int64} (h : r.toUInt64.toNat = 0) : r = 0 := by
  have h2 : r.toUInt64 = 0 := UInt64.toNat_inj.mp h
  rw [← Int64.toInt64_toUInt64 r, h2]
  rfl
theorem a_pL_0 : ∀ k n r, (a_pL k n r 0).2.2 = 0 := by
  intro k
  induction k with
  | zero => intro n r; rfl
  | succ k ih =>
    intro n r
    unfold a_pL
    split
    · rfl
    · rw [if_neg (fun h => h.1 rfl)]
      exact ih _ _
theorem c_sg_ok : ∀ k n r, r.toUInt64.toNat < 256 ^ k → c_sg k n r = if (a_pL k n r 1).2.2 = 0 ∨ ¬ lg_cmp (a_pL k n r 1).2.1 0 = 0 then 0 else (a_pL k n r 1).1 := by
  intro k
  induction k with
  | zero =>
    intro n r h
    have hr : r = 0 := a_u0 (by omega)
    subst hr
    show n = if (1 : Int32) = 0 ∨ ¬ lg_cmp (0 : Int64) 0 = 0 then 0 else n
    rw [if_neg (by decide)]
  | succ k ih =>
    intro n r h
    by_cases h0 : r = 0
    · subst h0
      rw [show c_sg (k + 1) n 0 = n from if_pos (by decide), show a_pL (k + 1) n 0 1 = (n, 0, 1) from if_pos (by decide)]
      show n = if (1 : Int32) = 0 ∨ ¬ lg_cmp (0 : Int64) 0 = 0 then 0 else n
      rw [if_neg (by decide)]
    · have hne : ¬ lg_cmp r 0 = 0 := fun z => h0 ((lg_cmp_eq r 0).mp z)
      rw [show c_sg (k + 1) n r = if nI 33 ≤ a_lo r ∧ a_lo r ≤ nI 126 then c_sg k (n + 1) (a_sr r (nI 8)) else 0 from if_neg hne]
      by_cases hz : r &&& 255 = 0
      · have hl : a_lo r = 0 := by unfold a_lo; rw [hz]; rfl
        rw [if_neg (by rw [hl]; decide), show a_pL (k + 1) n r 1 = (n, r, 1) from if_pos ((lg_cmp_eq _ _).mpr hz)]
        exact (if_pos (Or.inr hne)).symm
      · rw [show a_pL (k + 1) n r 1 = a_pL k (n + 1) (a_sr r (nI 8)) (if ¬ (1 : Int32) = 0 ∧ (nI 33 ≤ a_lo r ∧ a_lo r ≤ nI 126) then 1 else 0) from if_neg (fun z => hz ((lg_cmp_eq _ _).mp z))]
        by_cases hin : nI 33 ≤ a_lo r ∧ a_lo r ≤ nI 126
        · rw [if_pos hin, show (if ¬ (1 : Int32) = 0 ∧ (nI 33 ≤ a_lo r ∧ a_lo r ≤ nI 126) then (1 : Int32) else 0) = 1 from if_pos ⟨by decide, hin⟩]
          refine ih (n + 1) _ ?_
          rw [a_sr_n (by decide)]
          have h3 : r.toUInt64.toNat < 256 * 256 ^ k := by rw [Nat.pow_succ, Nat.mul_comm] at h; exact h
          exact Nat.div_lt_of_lt_mul h3
        · rw [if_neg hin, show (if ¬ (1 : Int32) = 0 ∧ (nI 33 ≤ a_lo r ∧ a_lo r ≤ nI 126) then (1 : Int32) else 0) = 0 from if_neg (fun z => hin z.2), if_pos (Or.inl (a_pL_0 _ _ _))]
theorem c_sg_b : ∀ k n r m, c_sg k n r = m → m ≠ 0 → n ≤ m ∧ m ≤ n + k ∧ ∀ i, i < m - n → 33 ≤ r.toUInt64.toNat / 256 ^ i % 256 ∧ r.toUInt64.toNat / 256 ^ i % 256 ≤ 126 := by
  intro k
  induction k with
  | zero =>
    intro n r m h hm
    have h : n = m := h
    exact ⟨by omega, by omega, fun i hi => by omega⟩
  | succ k ih =>
    intro n r m h hm
    by_cases h0 : lg_cmp r 0 = 0
    · have e : n = m := (show c_sg (k + 1) n r = n from if_pos h0).symm.trans h
      exact ⟨by omega, by omega, fun i hi => by omega⟩
    · have e : c_sg (k + 1) n r = if nI 33 ≤ a_lo r ∧ a_lo r ≤ nI 126 then c_sg k (n + 1) (a_sr r (nI 8)) else 0 := if_neg h0
      by_cases hin : nI 33 ≤ a_lo r ∧ a_lo r ≤ nI 126
      · rw [e, if_pos hin] at h
        obtain ⟨h1, h2, h3⟩ := ih _ _ _ h hm
        refine ⟨by omega, by omega, fun i hi => ?_⟩
        cases i with
        | zero =>
          rw [a_lo_n] at hin
          have hb : r.toUInt64.toNat % 256 < 256 := Nat.mod_lt _ (by decide)
          rw [Nat.pow_zero, Nat.div_one]
          exact ⟨(nI_leI (by decide) (by omega)).mp hin.1, (nI_leI (by omega) (by decide)).mp hin.2⟩
        | succ j =>
          have h4 := h3 j (by omega)
          rw [a_sr_n (by decide)] at h4
          rw [Nat.pow_succ, Nat.mul_comm, ← Nat.div_div_eq_div_mul]
          exact h4
      · rw [e, if_neg hin] at h
        exact absurd h.symm hm
theorem c_sg_no {x : Int64} (h : a_padB x) : c_sg 8 0 x = 0 := by
  rw [c_sg_ok 8 0 x (UInt64.toNat_lt _)]
  rcases h with h | h
  · split
    · rfl
    · exact h
  · exact if_pos h
theorem c_sg_yes {x : Int64} (h : ¬ a_padB x) : c_sg 8 0 x = (a_pL 8 0 x 1).1 ∧ 0 < (a_pL 8 0 x 1).1 ∧ (a_pL 8 0 x 1).1 ≤ 8 := by
  refine ⟨?_, Nat.pos_of_ne_zero fun z => h (Or.inl z), a_pL_le 8 0 x 1⟩
  rw [c_sg_ok 8 0 x (UInt64.toNat_lt _)]
  exact if_neg fun z => h (Or.inr z)
/-- the byte i -/
theorem a_byte {x : Int64} {i : Nat} (hi : i < 8) : a_lo (a_sr x (nI 8 * nI i)) = nI (x.toUInt64.toNat / 256 ^ i % 256) := by
  rw [q_nI_mul, a_lo_n, a_sr_n (by omega), Nat.pow_mul]
theorem a_byte_ok {x : Int64} (h : ¬ a_padB x) {i : Nat} (hi : i < (a_pL 8 0 x 1).1) : ∃ s, 33 ≤ s ∧ s ≤ 126 ∧ a_lo (a_sr x (nI 8 * nI i)) = nI s := by
  obtain ⟨h1, h2, h3⟩ := c_sg_yes h
  obtain ⟨-, -, h4⟩ := c_sg_b 8 0 x _ h1 (by omega)
  obtain ⟨h5, h6⟩ := h4 i (by omega)
  exact ⟨_, h5, h6, a_byte (by omega)⟩
theorem a_padW_at {P : a_A} {x : Int64} {len n i : Nat} (hi : i < n) : a_padW P x len n (len + i) = a_lo (a_sr x (nI 8 * nI (n - 1 - i))) := by
  have h1 : len ≤ len + i ∧ len + i < len + n := by omega
  unfold a_padW
  rw [if_pos h1, q_nI_sub (by omega), show len + i - len = i by omega, q_nI_sub (by omega)]
theorem a_padW_lo {P : a_A} {x : Int64} {len n j : Nat} (hj : j < len) : a_padW P x len n j = P j := by
  have h1 : ¬ (len ≤ j ∧ j < len + n) := by omega
  unfold a_padW
  rw [if_neg h1]
theorem a_padW_Pg {P : a_A} {x : Int64} {len : Nat} (h : ¬ a_padB x) (hP : Pg P len) (hl : len + (a_pL 8 0 x 1).1 ≤ 80) : Pg (a_padW P x len (a_pL 8 0 x 1).1) (len + (a_pL 8 0 x 1).1) := by
  refine ⟨hl, fun j hj => ?_⟩
  by_cases q : j < len
  · rw [a_padW_lo q]
    exact hP.2 j q
  · obtain ⟨i, rfl⟩ : ∃ i, j = len + i := ⟨j - len, by omega⟩
    rw [a_padW_at (by omega)]
    exact a_byte_ok h (by omega)
theorem a_put_f {P : a_A} {x : Int64} {len N : Nat} (hB : ¬ a_padB x) (hN : (a_pL 8 0 x 1).1 = N) (hP : Pg P len) (h80 : len + N ≤ 80) : (c_sg 8 0 x = N ∧ 0 < N ∧ N ≤ 8) ∧ Pg (a_padW P x len N) (len + N) ∧ (∀ i, i < N → ∃ s, 33 ≤ s ∧ s ≤ 126 ∧ a_lo (a_sr x (nI 8 * nI i)) = nI s) ∧ (∀ i, i < N → a_padW P x len N (len + i) = a_lo (a_sr x (nI 8 * nI (N - 1 - i)))) ∧ ∀ j, j < len → a_padW P x len N j = P j := by
  subst hN
  exact ⟨c_sg_yes hB, a_padW_Pg hB hP h80, fun i hi => a_byte_ok hB hi, fun i hi => a_padW_at hi, fun j hj => a_padW_lo hj⟩
theorem a_i2c : ∀ b, b < 256 → ((nI b).toUInt32 % 65536).toInt32 = nI b ∧ vp_nar .char (nI b) = nI b := by decide +kernel
/-- the pad between the calls: its length and signs -/
def Pk (q : Nat) (I : q_Mem) (P : a_A) (len : Nat) : Prop := Pg P len ∧ I q 0 = nI len ∧ ∀ j, j < len → I (q + 1) j = P j
theorem dG {Sh : q_Sh} {d : Nat} (h : dOk Sh d) : gOk Sh (d + 427) := ⟨h.2.2.2.2.2.1.2, h.2.2.2.2.2.2⟩
set_option maxRecDepth 100000 in
set_option maxHeartbeats 4000000 in
theorem s_X2_append {Sh : q_Sh} {I : q_Mem} {q len b : Nat} (hc : gOk Sh q) (hl : I q 0 = nI len) (hlen : len < 80) (hb : b < 256) : q_Rt mX2_append 0 [.ref q, .int (nI b)] Sh (I) (none) (q_setA (q_setA I (q + 1) (upd (I (q + 1)) len (nI b))) q (upd (I q) 0 (nI (len + 1)))) := by
  refine q_rt_of (by decide) (Nat.le_of_ble_eq_true rfl) fun Γ BM => ?_
  have B := BM.1
  show q_W Γ mX2_append 0 0 Sh (I) 0 [(0, .ref q), (1, .int (nI b))] []
  refine q_aload_n B dX2_append_0 rfl rfl ?_
  refine q_getI2 B kC_X2 (k := 0) (by decide) rfl kf_X2_9 hc.1 hl dX2_append_1 ?_
  refine q_if_lt (tgt := 40) B dX2_append_4 (by decide) (fun h => absurd h ((nI_pos (by omega)))) (fun _ => ?_)
  refine q_aload_n B dX2_append_7 rfl rfl ?_
  refine q_getI2 B kC_X2 (k := 0) (by decide) rfl kf_X2_9 hc.1 hl dX2_append_8 ?_
  refine q_aload_n B dX2_append_11 rfl rfl ?_
  refine q_getR B kC_X2 (k := 7) (by decide) rfl kf_X2_33 hc.1 (pdR hc) dX2_append_12 ?_
  refine q_alen B (pdA hc) rfl dX2_append_15 ?_
  refine q_icmp_ge (tgt := 40) B dX2_append_16 (by decide) (fun h => absurd h ((q_nle (b := len) (a := 80) (by omega) (by decide)))) (fun _ => ?_)
  refine q_aload_n B dX2_append_19 rfl rfl ?_
  refine q_getR B kC_X2 (k := 7) (by decide) rfl kf_X2_33 hc.1 (pdR hc) dX2_append_20 ?_
  refine q_aload_n B dX2_append_23 rfl rfl ?_
  refine q_getI2 B kC_X2 (k := 0) (by decide) rfl kf_X2_9 hc.1 hl dX2_append_24 ?_
  refine q_iload_n B dX2_append_27 rfl rfl ?_
  refine q_i2c B dX2_append_28 ?_
  refine q_top (a_i2c b hb).1 ?_
  refine q_cast (n := len) B (pdA hc) rfl hlen (by decide) (a_i2c b hb).2 dX2_append_29 ?_
  refine q_aload_n B dX2_append_30 rfl rfl ?_
  refine q_dup B dX2_append_31 rfl ?_
  refine q_getI2 B kC_X2 (k := 0) (by decide) rfl kf_X2_9 hc.1 ((congrFun (q_setA_ne (by omega)) 0).trans hl) dX2_append_32 ?_
  refine q_iconst (v := 1) B dX2_append_35 rfl ?_
  refine q_iadd B dX2_append_36 ?_
  refine q_top (a_inc len) ?_
  refine q_putI2 B kC_X2 (k := 0) (by decide) rfl kf_X2_9 rfl rfl rfl hc.1 dX2_append_37 ?_
  exact q_vret BM rfl dX2_append_40 ⟨rfl, rfl, by rw [q_setA_ne (show q ≠ q + 1 by omega)]⟩
set_option maxRecDepth 100000 in
set_option maxHeartbeats 4000000 in
theorem s_X6_signsIn {Sh : q_Sh} {I : q_Mem} {x : Int64} : q_Rt mX6_signsIn 0 [.long x] Sh (I) (some (.int (nI (c_sg 8 0 x)))) (I) := by
  refine q_rt_of (by decide) (Nat.le_of_ble_eq_true rfl) fun Γ BM => ?_
  have B := BM.1
  show q_W Γ mX6_signsIn 0 0 Sh (I) 0 [(0, .long x)] []
  refine q_lload_n B dX6_signsIn_0 rfl rfl ?_
  refine q_lstore_n B dX6_signsIn_1 rfl (Nat.le_of_ble_eq_true rfl) rfl rfl ?_
  refine q_iconst (v := nI 0) B dX6_signsIn_2 rfl ?_
  refine q_istore B dX6_signsIn_3 (Nat.le_of_ble_eq_true rfl) rfl ?_
  refine q_iconst (v := nI 0) B dX6_signsIn_5 rfl ?_
  refine q_istore B dX6_signsIn_6 (Nat.le_of_ble_eq_true rfl) rfl ?_
  have hl_8 : ∀ (n i : Nat) (r : Int64), i + n = 8 → c_sg n i r = c_sg 8 0 x → q_W Γ mX6_signsIn 0 0 Sh I 8 [(0, .long x), (2, .long r), (4, .int (nI i)), (5, .int (nI i))] [] := by
    intro n
    induction n with
    | zero =>
      intro i r hin hinv
      have hi : i = 8 := by omega
      subst hi
      have hz : nI (c_sg 8 0 x) = nI 8 := by rw [← hinv]; rfl
      refine q_iload B dX6_signsIn_8 rfl ?_
      refine q_bipush (v := nI 8) B dX6_signsIn_10 rfl ?_
      refine q_icmp_ge (tgt := 59) B dX6_signsIn_12 (by decide) (fun _ => ?_) (fun h => absurd (q_le (Nat.le_refl 8) (by decide)) h)
      refine q_iload B dX6_signsIn_59 rfl ?_
      exact q_iret BM rfl dX6_signsIn_61 ⟨by rw [hz], rfl, rfl⟩
    | succ n ih =>
      intro i r hin hinv
      have hiN : i < 8 := by omega
      refine q_iload B dX6_signsIn_8 rfl ?_
      refine q_bipush (v := nI 8) B dX6_signsIn_10 rfl ?_
      refine q_icmp_ge (tgt := 59) B dX6_signsIn_12 (by decide) (fun h => absurd h (q_nle hiN (by decide))) (fun _ => ?_)
      refine q_lload_n B dX6_signsIn_15 rfl rfl ?_
      refine q_lconst (v := 0) B dX6_signsIn_16 rfl ?_
      refine q_lcmp B dX6_signsIn_17 ?_
      refine q_if_eq (tgt := 59) B dX6_signsIn_18 (by decide) (fun c_18 => ?_) (fun c_18 => ?_)
      · skip
        have hz : c_sg 8 0 x = i := by rw [← hinv]; exact if_pos c_18
        refine q_iload B dX6_signsIn_59 rfl ?_
        exact q_iret BM rfl dX6_signsIn_61 ⟨by rw [hz], rfl, rfl⟩
      · skip
        have hz0 : c_sg (n + 1) i r = if nI 33 ≤ a_lo r ∧ a_lo r ≤ nI 126 then c_sg n (i + 1) (a_sr r (nI 8)) else 0 := if_neg c_18
        refine q_lload_n B dX6_signsIn_21 rfl rfl ?_
        refine q_ldc2 B kg_X6_187 dX6_signsIn_22 ?_
        refine q_land B dX6_signsIn_25 ?_
        refine q_l2i B dX6_signsIn_26 ?_
        refine q_istore B dX6_signsIn_27 (Nat.le_of_ble_eq_true rfl) rfl ?_
        refine q_iload B dX6_signsIn_29 rfl ?_
        refine q_bipush (v := nI 33) B dX6_signsIn_31 rfl ?_
        refine q_icmp_lt (tgt := 43) B dX6_signsIn_33 (by decide) (fun c_33 => ?_) (fun c_33 => ?_)
        · skip
          have hz : c_sg 8 0 x = 0 := by rw [← hinv, hz0]; exact if_neg (fun z => absurd z.1 (Int32.not_le.mpr c_33))
          refine q_iconst (v := nI 0) B dX6_signsIn_43 rfl ?_
          exact q_iret BM rfl dX6_signsIn_44 ⟨by rw [hz], rfl, rfl⟩
        · skip
          refine q_iload B dX6_signsIn_36 rfl ?_
          refine q_bipush (v := nI 126) B dX6_signsIn_38 rfl ?_
          refine q_icmp_le (tgt := 45) B dX6_signsIn_40 (by decide) (fun c_40 => ?_) (fun c_40 => ?_)
          · skip
            have hz : c_sg n (i + 1) (a_sr r (nI 8)) = c_sg 8 0 x := by rw [← hinv, hz0]; exact (if_pos ⟨Int32.not_lt.mp c_33, c_40⟩).symm
            refine q_lload_n B dX6_signsIn_45 rfl rfl ?_
            refine q_bipush (v := nI 8) B dX6_signsIn_46 rfl ?_
            refine q_lushr B dX6_signsIn_48 ?_
            refine q_lstore_n B dX6_signsIn_49 rfl (Nat.le_of_ble_eq_true rfl) rfl rfl ?_
            refine q_iinc2 (y := nI (i + 1)) B dX6_signsIn_50 rfl (q_inc1 _) (Nat.le_of_ble_eq_true rfl) rfl ?_
            refine q_iinc2 (y := nI (i + 1)) B dX6_signsIn_53 rfl (q_inc1 _) (Nat.le_of_ble_eq_true rfl) rfl ?_
            refine q_goto (tgt := 8) B dX6_signsIn_56 (by decide) ?_
            exact q_tk (ih (i + 1) (a_sr r (nI 8)) (by omega) hz) rfl (q_ac rfl (q_ac rfl (q_ac rfl (q_ac rfl q_an))))
          · skip
            have hz : c_sg 8 0 x = 0 := by rw [← hinv, hz0]; exact if_neg (fun z => c_40 z.2)
            refine q_iconst (v := nI 0) B dX6_signsIn_43 rfl ?_
            exact q_iret BM rfl dX6_signsIn_44 ⟨by rw [hz], rfl, rfl⟩
  exact q_tk (hl_8 8 0 x (by omega) rfl) rfl (q_ac rfl (q_ac rfl (q_ac rfl (q_ac rfl q_an))))
set_option maxRecDepth 100000 in
set_option maxHeartbeats 4000000 in
theorem s_X6_put_no {Sh : q_Sh} {I : q_Mem} {d len : Nat} {P : a_A} (hc : dOk Sh d) (hG : Pk (d + 427) I P len) {x : Int64} (hno : a_padB x ∨ 80 < len + (a_pL 8 0 x 1).1) : q_Rt mX6_put 1 [.ref d, .long x] Sh (I) (some (.int (if (a_pL 8 0 x 1).1 = 0 ∨ (a_pL 8 0 x 1).2.2 = 0 ∨ ¬ lg_cmp (a_pL 8 0 x 1).2.1 0 = 0 then -2 else -4))) (I) := by
  refine q_rt_of (by decide) (Nat.le_of_ble_eq_true rfl) fun Γ BM => ?_
  have B := BM.1
  have hl := hG.1.1
  show q_W Γ mX6_put 0 0 Sh (I) 0 [(0, .ref d), (1, .long x)] []
  refine q_lload_n B dX6_put_0 rfl rfl ?_
  refine q_rtS B s_X6_signsIn kv_yX6_signsIn kt_yX6_signsIn km_X6_183 rfl (by decide) rfl (Nat.le_of_ble_eq_true rfl) dX6_put_1 ?_
  refine q_istore_n B dX6_put_4 rfl (Nat.le_of_ble_eq_true rfl) rfl ?_
  refine q_iload_n B dX6_put_5 rfl rfl ?_
  refine q_if_ne (tgt := 12) B dX6_put_6 (by decide) (fun c_6 => ?_) (fun c_6 => ?_)
  · skip
    have hB : ¬ a_padB x := fun z => c_6 (by rw [c_sg_no z]; rfl)
    obtain ⟨e1, e2, e3⟩ := c_sg_yes hB
    have h80 := hno.resolve_left hB
    refine q_aload_n B dX6_put_12 rfl rfl ?_
    refine q_getR B kC_X6 (k := 4) (by decide) rfl kf_X6_33 hc.1 (dpd hc) dX6_put_13 ?_
    refine q_getI2 B kC_X2 (k := 0) (by decide) rfl kf_X6_151 (dPd hc) hG.2.1 dX6_put_16 ?_
    refine q_iload_n B dX6_put_19 rfl rfl ?_
    refine q_iadd B dX6_put_20 ?_
    refine q_bipush (v := nI 80) B dX6_put_21 rfl ?_
    refine q_icmp_le (tgt := 29) B dX6_put_23 (by decide) (fun h => absurd h ((by rw [e1, nI_add]; exact q_nle h80 (by omega)))) (fun _ => ?_)
    refine q_bipush (v := -4) B dX6_put_26 rfl ?_
    exact q_iret BM rfl dX6_put_28 ⟨by rw [show (if (a_pL 8 0 x 1).1 = 0 ∨ (a_pL 8 0 x 1).2.2 = 0 ∨ ¬ lg_cmp (a_pL 8 0 x 1).2.1 0 = 0 then -2 else -4 : Int32) = -4 from if_neg hB], rfl, rfl⟩
  · skip
    have hB : a_padB x := by
      refine Classical.byContradiction fun z => ?_
      obtain ⟨z1, z2, z3⟩ := c_sg_yes z
      exact absurd c_6 (nI_ne0 (by omega) (by omega))
    refine q_bipush (v := -2) B dX6_put_9 rfl ?_
    exact q_iret BM rfl dX6_put_11 ⟨by rw [show (if (a_pL 8 0 x 1).1 = 0 ∨ (a_pL 8 0 x 1).2.2 = 0 ∨ ¬ lg_cmp (a_pL 8 0 x 1).2.1 0 = 0 then -2 else -4 : Int32) = -2 from if_pos hB], rfl, rfl⟩
set_option maxRecDepth 100000 in
set_option maxHeartbeats 4000000 in
theorem s_X6_put_yes {Sh : q_Sh} {I : q_Mem} {d len : Nat} {P : a_A} (hc : dOk Sh d) (hG : Pk (d + 427) I P len) {x : Int64} {N : Nat} (hB : ¬ a_padB x) (hN : (a_pL 8 0 x 1).1 = N) (h80 : len + N ≤ 80) : q_Rp mX6_put 1 [.ref d, .long x] Sh (I) (fun w J => w = some (.int (nI (len + N))) ∧ Pk (d + 427) J (a_padW P x len N) (len + N) ∧ ∀ l, l ≠ d + 427 → l ≠ d + 428 → J l = I l) := by
  refine q_rp_of (by decide) (Nat.le_of_ble_eq_true rfl) fun Γ BM => ?_
  have B := BM.1
  have hl := hG.1.1
  obtain ⟨⟨e1, e2, e3⟩, hW, hby, hat, hlo⟩ := a_put_f hB hN hG.1 h80
  show q_W Γ mX6_put 0 0 Sh (I) 0 [(0, .ref d), (1, .long x)] []
  refine q_lload_n B dX6_put_0 rfl rfl ?_
  refine q_rtS B s_X6_signsIn kv_yX6_signsIn kt_yX6_signsIn km_X6_183 rfl (by decide) rfl (Nat.le_of_ble_eq_true rfl) dX6_put_1 ?_
  refine q_top (congrArg nI e1) ?_
  refine q_istore_n B dX6_put_4 rfl (Nat.le_of_ble_eq_true rfl) rfl ?_
  refine q_iload_n B dX6_put_5 rfl rfl ?_
  refine q_if_ne (tgt := 12) B dX6_put_6 (by decide) (fun _ => ?_) (fun h => absurd h ((nI_ne0 (by omega) (by omega))))
  refine q_aload_n B dX6_put_12 rfl rfl ?_
  refine q_getR B kC_X6 (k := 4) (by decide) rfl kf_X6_33 hc.1 (dpd hc) dX6_put_13 ?_
  refine q_getI2 B kC_X2 (k := 0) (by decide) rfl kf_X6_151 (dPd hc) hG.2.1 dX6_put_16 ?_
  refine q_iload_n B dX6_put_19 rfl rfl ?_
  refine q_iadd B dX6_put_20 ?_
  refine q_bipush (v := nI 80) B dX6_put_21 rfl ?_
  refine q_icmp_le (tgt := 29) B dX6_put_23 (by decide) (fun _ => ?_) (fun h => absurd ((by rw [nI_add]; exact q_le h80 (by decide))) h)
  refine q_iload_n B dX6_put_29 rfl rfl ?_
  refine q_iconst (v := nI 1) B dX6_put_30 rfl ?_
  refine q_isub B dX6_put_31 ?_
  refine q_istore B dX6_put_32 (Nat.le_of_ble_eq_true rfl) rfl ?_
  have hl_34 : ∀ (n i : Nat) (J : q_Mem), i + n = N → (J (d + 427) 0 = nI (len + i) ∧ (∀ j, j < len + i → J (d + 428) j = a_padW P x len N j) ∧ ∀ l, l ≠ d + 427 → l ≠ d + 428 → J l = I l) → q_W Γ mX6_put 0 0 Sh J 34 [(0, .ref d), (1, .long x), (3, .int (nI N)), (4, .int (nI n - nI 1))] [] := by
    intro n
    induction n with
    | zero =>
      intro i J hin hinv
      have hi : i = N := by omega
      subst hi
      obtain ⟨g1, g2, g3⟩ := hinv
      refine q_iload B dX6_put_34 rfl ?_
      refine q_if_lt (tgt := 64) B dX6_put_36 (by decide) (fun _ => ?_) (fun h => absurd ((by decide)) h)
      refine q_aload_n B dX6_put_64 rfl rfl ?_
      refine q_getR B kC_X6 (k := 4) (by decide) rfl kf_X6_33 hc.1 (dpd hc) dX6_put_65 ?_
      refine q_getI2 B kC_X2 (k := 0) (by decide) rfl kf_X6_151 (dPd hc) g1 dX6_put_68 ?_
      exact q_iret BM rfl dX6_put_71 ⟨rfl, rfl, ⟨hW, g1, g2⟩, g3⟩
    | succ n ih =>
      intro i J hin hinv
      have hiN : i < N := by omega
      obtain ⟨g1, g2, g3⟩ := hinv
      rw [show nI (n + 1) - nI 1 = nI n from nI_pred n]
      obtain ⟨s, s1, s2, es⟩ := hby n (by omega)
      refine q_iload B dX6_put_34 rfl ?_
      refine q_if_lt (tgt := 64) B dX6_put_36 (by decide) (fun h => absurd h ((nI_pos (by omega)))) (fun _ => ?_)
      refine q_aload_n B dX6_put_39 rfl rfl ?_
      refine q_getR B kC_X6 (k := 4) (by decide) rfl kf_X6_33 hc.1 (dpd hc) dX6_put_40 ?_
      refine q_lload_n B dX6_put_43 rfl rfl ?_
      refine q_bipush (v := nI 8) B dX6_put_44 rfl ?_
      refine q_iload B dX6_put_46 rfl ?_
      refine q_imul B dX6_put_48 ?_
      refine q_lushr B dX6_put_49 ?_
      refine q_ldc2 B kg_X6_187 dX6_put_50 ?_
      refine q_land B dX6_put_53 ?_
      refine q_l2i B dX6_put_54 ?_
      refine q_top es ?_
      refine q_rtV B (s_X2_append (dG hc) g1 (by omega) (b := s) (by omega)) kv_yX2_append ki_yX2_append ks_yX2_append km_X6_189 rfl (ci := 2) rfl rfl (dPd hc) (by decide) rfl (Nat.le_of_ble_eq_true rfl) dX6_put_55 ?_
      refine q_iinc2 (y := nI n - nI 1) B dX6_put_58 rfl (by rw [Int32.sub_eq_add_neg]; rfl) (Nat.le_of_ble_eq_true rfl) rfl ?_
      refine q_goto (tgt := 34) B dX6_put_61 (by decide) ?_
      refine q_tk (ih (i + 1) _ (by omega) ⟨by rw [q_setA_at, q_upd_at]; rfl, fun j hj => ?_, fun l h1 h2 => ?_⟩) rfl (q_ac rfl (q_ac rfl (q_ac rfl (q_ac rfl q_an))))
      · rw [q_setA_ne (by omega), q_setA_at]
        by_cases q : j = len + i
        · subst q
          rw [q_upd_at, hat i (by omega), show N - 1 - i = n by omega, es]
        · rw [q_upd_ne q]
          exact g2 j (by omega)
      · rw [q_setA_ne h1, q_setA_ne h2]
        exact g3 l h1 h2
  exact q_tk (hl_34 N 0 I (by omega) ⟨hG.2.1, fun j hj => (hG.2.2 j hj).trans (hlo j hj).symm, fun _ _ _ => rfl⟩) rfl (q_ac rfl (q_ac rfl (q_ac rfl (q_ac rfl q_an))))
