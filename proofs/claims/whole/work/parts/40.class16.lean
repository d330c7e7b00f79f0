theorem p_dv_n {P : a_A} {len a m : Nat} (h : Pg P len) (hm : m ≤ 9) (hk : p_ok P len m a true = true) : ∃ k, k ≤ m ∧ p_dv P len a = nI k ∧ a < len := by
  obtain ⟨s, hs, es, hsl⟩ := p_s_n (a := a) h
  have hk2 := hk
  unfold p_ok at hk2
  rw [Bool.true_and, es] at hk2
  have key : ∀ s, s ≤ 126 → ∀ m, m ≤ 9 → p_in (nI s) m = true → 48 ≤ s ∧ s - 48 ≤ m := by decide +kernel
  obtain ⟨k1, k2⟩ := key s hs m hm hk2
  refine ⟨s - 48, k2, ?_, hsl (by omega)⟩
  unfold p_dv
  rw [es, q_nI_sub k1]
theorem a_or8 : ∀ r, r < 256 → ∀ k, k < 8 → nI r ||| (nI 1 <<< (nI k &&& 31)) = nI (r ||| 2 ^ k) ∧ 0 < r ||| 2 ^ k ∧ r ||| 2 ^ k < 256 := by decide +kernel
theorem a_d0 : ∀ k, k < 8 → nI 1 <<< ((nI k &&& nI 7) &&& 31) = nI (0 ||| 2 ^ k) := by decide +kernel
theorem p_ok_in {P : a_A} {len m a : Nat} : p_ok P len m a true = p_in (p_s P len a) m := by unfold p_ok; exact Bool.true_and _
theorem p_dl_s {P : a_A} {len m k a : Nat} {s : Int32} (h : p_ok P len m a true = true) : p_dl P len m (k + 1) a s = p_dl P len m k (a + 1) (s ||| (nI 1 <<< (p_dv P len a &&& 31))) := by
  show (if p_in (p_s P len a) m = true then _ else _) = _
  rw [if_pos (by rw [← p_ok_in]; exact h)]
theorem p_dl_n {P : a_A} {len m k a : Nat} {s : Int32} (h : p_ok P len m a true = false) : p_dl P len m k a s = (a, s) := by
  cases k with
  | zero => rfl
  | succ k =>
    show (if p_in (p_s P len a) m = true then _ else _) = _
    rw [if_neg (by rw [← p_ok_in, h]; exact Bool.false_ne_true)]
theorem p_ok_end {P : a_A} {len m a : Nat} (hm : m ≤ 9) (h : len ≤ a) : p_ok P len m a true = false := by
  rw [p_ok_in, p_s, if_neg (by omega)]
  exact p_in_0 m hm
set_option maxRecDepth 100000 in
set_option maxHeartbeats 4000000 in
theorem s_X2_readSet {Sh : q_Sh} {I : q_Mem} {q len a : Nat} {P : a_A} {L D N X : Int32} (hc : gOk Sh q) (hG : Pd q I P len a L D 0 N X) {m : Nat} (hm : m ≤ 7) : q_Rp mX2_readSet 2 [.ref q, .int (nI m)] Sh (I) (fun w J => w = some (.int (b2 (p_ok P len m a true))) ∧ Pd q J P len (if p_ok P len m a true = true then (p_dl P len m 80 (a + 1) (p_d0 P len a)).1 else a) L D (if p_ok P len m a true = true then (p_dl P len m 80 (a + 1) (p_d0 P len a)).2 else 0) N X ∧ FrP q I J) := by
  refine q_rp_of (by decide) (Nat.le_of_ble_eq_true rfl) fun Γ BM => ?_
  have B := BM.1
  have hl := hG.1.1.1
  have ha := hG.2.1.1
  show q_W Γ mX2_readSet 0 0 Sh (I) 0 [(0, .ref q), (1, .int (nI m))] []
  have j_39 : ∀ (J : q_Mem) (ai : Nat) (s y : Int32), ((p_ok P len m a true = false ∧ ai = a ∧ s = 0) ∨ (p_ok P len m a true = true ∧ p_dl P len m 80 (a + 1) (p_d0 P len a) = (ai, s) ∧ ∃ r, 0 < r ∧ r < 256 ∧ s = nI r)) ∧ Pd q J P len ai L D s N X ∧ FrP q I J → q_W Γ mX2_readSet 0 0 Sh J 39 [(0, .ref q), (1, .int (nI m)), (2, .int y)] [] := by
    intro J ai s y hr
    obtain ⟨hcs, hG1, hF1⟩ := hr
    refine q_aload_n B dX2_readSet_39 rfl rfl ?_
    refine q_getI2 B kC_X2 (k := 4) (by decide) rfl kf_X2_24 hc.1 hG1.2.2.2.2.1 dX2_readSet_40 ?_
    refine q_if_eq (tgt := 50) B dX2_readSet_43 (by decide) (fun c_43 => ?_) (fun c_43 => ?_)
    · skip
      have hz : p_ok P len m a true = false := by
        rcases hcs with z | ⟨-, -, r, r0, r1, rfl⟩
        · exact z.1
        · exact absurd c_43 (nI_ne0 (by omega) (by omega))
      have hz2 : ai = a ∧ s = 0 := by
        rcases hcs with z | ⟨z, -⟩
        · exact z.2
        · rw [hz] at z; exact absurd z (by decide)
      refine q_iconst (v := 0) B dX2_readSet_50 rfl ?_
      exact q_zret BM rfl (by first | exact Or.inl rfl | exact Or.inr rfl) dX2_readSet_51 ⟨rfl, by rw [hz]; rfl, by first | (rw [hz, if_neg Bool.false_ne_true, if_neg Bool.false_ne_true, ← hz2.2, ← hz2.1]; exact hG1) | (rw [if_pos hz, if_pos hz, hz2]; exact hG1) | (obtain ⟨rfl, rfl⟩ := hz2; rw [hz]; exact hG1), hF1⟩
    · skip
      obtain ⟨hz, hz2, -⟩ := hcs.resolve_left (fun z => c_43 z.2.2)
      refine q_iconst (v := 1) B dX2_readSet_46 rfl ?_
      refine q_goto (tgt := 51) B dX2_readSet_47 (by decide) ?_
      exact q_zret BM rfl (by first | exact Or.inl rfl | exact Or.inr rfl) dX2_readSet_51 ⟨rfl, by rw [hz]; rfl, by first | (rw [hz, if_neg Bool.false_ne_true, if_neg Bool.false_ne_true, ← hz2.2, ← hz2.1]; exact hG1) | (rw [if_pos hz, if_pos hz, hz2]; exact hG1) | (obtain ⟨rfl, rfl⟩ := hz2; rw [hz]; exact hG1), hF1⟩
  refine q_iconst (v := 0) B dX2_readSet_0 rfl ?_
  refine q_istore_n B dX2_readSet_1 rfl (Nat.le_of_ble_eq_true rfl) rfl ?_
  have hl_2 : ∀ (n i : Nat) (s : Int32) (J : q_Mem), i + n = 80 → (((i = 0 ∧ s = 0 ∧ J = I) ∨ (1 ≤ i ∧ p_ok P len m a true = true ∧ p_dl P len m (81 - i) (a + i) s = p_dl P len m 80 (a + 1) (p_d0 P len a) ∧ ∃ r, 0 < r ∧ r < 256 ∧ s = nI r)) ∧ Pd q J P len (a + i) L D s N X ∧ FrP q I J) → q_W Γ mX2_readSet 0 0 Sh J 2 [(0, .ref q), (1, .int (nI m)), (2, .int (nI i))] [] := by
    intro n
    induction n with
    | zero =>
      intro i s J hin hinv
      have hi : i = 80 := by omega
      subst hi
      obtain ⟨hi1, hG3, hF3⟩ := hinv
      obtain ⟨-, hok, hdl, hrr⟩ := hi1.resolve_left (fun z => absurd z.1 (by decide))
      have hle : len ≤ a + 80 := by omega
      rw [p_dl_n (p_ok_end (by omega) hle)] at hdl
      have hfin := (show (p_ok P len m a true = false ∧ a + 80 = a ∧ s = 0) ∨ (p_ok P len m a true = true ∧ p_dl P len m 80 (a + 1) (p_d0 P len a) = (a + 80, s) ∧ ∃ r, 0 < r ∧ r < 256 ∧ s = nI r) from Or.inr ⟨hok, hdl.symm, hrr⟩)
      refine q_iload_n B dX2_readSet_2 rfl rfl ?_
      refine q_bipush (v := nI 80) B dX2_readSet_3 rfl ?_
      refine q_icmp_ge (tgt := 39) B dX2_readSet_5 (by decide) (fun _ => ?_) (fun h => absurd (q_le (Nat.le_refl 80) (by decide)) h)
      exact q_tk (j_39 _ _ _ _ ⟨hfin, hG3, hF3⟩) rfl (q_ac rfl (q_ac rfl (q_ac rfl q_an)))
    | succ n ih =>
      intro i s J hin hinv
      have hiN : i < 80 := by omega
      obtain ⟨hi1, hG3, hF3⟩ := hinv
      refine q_iload_n B dX2_readSet_2 rfl rfl ?_
      refine q_bipush (v := nI 80) B dX2_readSet_3 rfl ?_
      refine q_icmp_ge (tgt := 39) B dX2_readSet_5 (by decide) (fun h => absurd h (q_nle hiN (by decide))) (fun _ => ?_)
      refine q_aload_n B dX2_readSet_8 rfl rfl ?_
      refine q_iload_n B dX2_readSet_9 rfl rfl ?_
      refine q_rpV B (s_X2_digitAtMost hc hG3 (m := m) (by omega)) kv_yX2_digitAtMost ki_yX2_digitAtMost ks_yX2_digitAtMost km_X2_61 rfl (ci := 2) rfl rfl hc.1 (by decide) rfl (Nat.le_of_ble_eq_true rfl) dX2_readSet_10 (fun w0 J2 hx => ?_)
      obtain ⟨rfl, h1, h2⟩ := hx
      by_cases hk : p_ok P len m (a + i) true = true
      · rw [if_pos hk]
        refine q_istore_n B dX2_readSet_13 rfl (Nat.le_of_ble_eq_true rfl) rfl ?_
        obtain ⟨k, hkm, ek, hkl⟩ := p_dv_n hG3.1.1 (by omega) hk
        have hG4 : Pd q J2 P len (a + i + 1) L D s N X := by rw [hk] at h1; exact h1
        refine q_iload_n B dX2_readSet_14 rfl rfl ?_
        refine q_if_ge (tgt := 21) B dX2_readSet_15 (by decide) (fun _ => ?_) (fun h => absurd ((by rw [ek]; exact q_le (a := 0) (Nat.zero_le k) (by omega))) h)
        refine q_aload_n B dX2_readSet_21 rfl rfl ?_
        refine q_dup B dX2_readSet_22 rfl ?_
        refine q_getI2 B kC_X2 (k := 4) (by decide) rfl kf_X2_24 hc.1 hG4.2.2.2.2.1 dX2_readSet_23 ?_
        refine q_iconst (v := nI 1) B dX2_readSet_26 rfl ?_
        refine q_iload_n B dX2_readSet_27 rfl rfl ?_
        refine q_ishl B dX2_readSet_28 ?_
        refine q_ior B dX2_readSet_29 ?_
        refine q_putI2 B kC_X2 (k := 4) (by decide) rfl kf_X2_24 rfl rfl rfl hc.1 dX2_readSet_30 ?_
        refine q_iinc2 (y := nI (i + 1)) B dX2_readSet_33 rfl (q_inc1 _) (Nat.le_of_ble_eq_true rfl) rfl ?_
        refine q_goto (tgt := 2) B dX2_readSet_36 (by decide) ?_
        refine q_tk (ih (i + 1) (s ||| (nI 1 <<< (p_dv P len (a + i) &&& 31))) (q_setA J2 q (upd (J2 q) 4 (s ||| (nI 1 <<< (p_dv P len (a + i) &&& 31))))) (by omega) ⟨Or.inr ⟨by omega, ?_⟩, hG4.f4, (hF3.tr h2).tr FrP.set⟩) rfl (q_ac rfl (q_ac rfl (q_ac rfl q_an)))
        rcases hi1 with ⟨rfl, rfl, -⟩ | ⟨h1i, hok, hdl, r, hr0, hr1, rfl⟩
        · obtain ⟨b1, b2', b3⟩ := a_or8 0 (by decide) k (by omega)
          have ek2 : p_dv P len a = nI k := ek
          have e0 : (0 : Int32) ||| (nI 1 <<< (p_dv P len (a + 0) &&& 31)) = p_d0 P len a := by
            show (0 : Int32) ||| (nI 1 <<< (p_dv P len a &&& 31)) = p_d0 P len a
            unfold p_d0
            rw [ek2, a_d0 k (by omega)]
            exact b1
          refine ⟨hk, by rw [e0], 0 ||| 2 ^ k, b2', b3, ?_⟩
          rw [ek]
          exact b1
        · obtain ⟨b1, b2', b3⟩ := a_or8 r hr1 k (by omega)
          refine ⟨hok, ?_, r ||| 2 ^ k, b2', b3, by rw [ek]; exact b1⟩
          rw [← hdl, show 81 - i = (81 - (i + 1)) + 1 by omega, p_dl_s hk]
          rfl
      · rw [if_neg hk]
        refine q_istore_n B dX2_readSet_13 rfl (Nat.le_of_ble_eq_true rfl) rfl ?_
        have hk2 := Bool.eq_false_iff.mpr hk
        rw [hk2] at h1
        have hG3 : Pd q J2 P len (a + i) L D s N X := h1
        have hF3 := hF3.tr h2
        have hfin : (p_ok P len m a true = false ∧ a + i = a ∧ s = 0) ∨ (p_ok P len m a true = true ∧ p_dl P len m 80 (a + 1) (p_d0 P len a) = (a + i, s) ∧ ∃ r, 0 < r ∧ r < 256 ∧ s = nI r) := by
          rcases hi1 with ⟨rfl, rfl, -⟩ | ⟨-, hok, hdl, hrr⟩
          · exact Or.inl ⟨hk2, rfl, rfl⟩
          · rw [p_dl_n hk2] at hdl; exact Or.inr ⟨hok, hdl.symm, hrr⟩
        refine q_iload_n B dX2_readSet_14 rfl rfl ?_
        refine q_if_ge (tgt := 21) B dX2_readSet_15 (by decide) (fun h => absurd h ((by decide))) (fun _ => ?_)
        refine q_goto (tgt := 39) B dX2_readSet_18 (by decide) ?_
        exact q_tk (j_39 _ _ _ _ ⟨hfin, hG3, hF3⟩) rfl (q_ac rfl (q_ac rfl (q_ac rfl q_an)))
  exact q_tk (hl_2 80 0 0 I (by omega) ⟨Or.inl ⟨rfl, rfl, rfl⟩, hG, FrP.rf⟩) rfl (q_ac rfl (q_ac rfl (q_ac rfl q_an)))
set_option maxRecDepth 100000 in
set_option maxHeartbeats 4000000 in
theorem s_X2_readNumber {Sh : q_Sh} {I : q_Mem} {q len a : Nat} {P : a_A} {L D S N X : Int32} (hc : gOk Sh q) (hG : Pd q I P len a L D S N X) : q_Rp mX2_readNumber 2 [.ref q] Sh (I) (fun w J => w = some (.int (b2 (p_ok P len 9 a true))) ∧ Pd q J P len (p_num P len a true).2.1 L D S (if p_ok P len 9 a true = true then (p_num P len a true).1 else N) X ∧ FrP q I J) := by
  refine q_rp_of (by decide) (Nat.le_of_ble_eq_true rfl) fun Γ BM => ?_
  have B := BM.1
  have hl := hG.1.1.1
  have ha := hG.2.1.1
  show q_W Γ mX2_readNumber 0 0 Sh (I) 0 [(0, .ref q)] []
  refine q_aload_n B dX2_readNumber_0 rfl rfl ?_
  refine q_bipush (v := nI 9) B dX2_readNumber_1 rfl ?_
  refine q_rpV B (s_X2_digitAtMost hc hG (m := 9) (by decide)) kv_yX2_digitAtMost ki_yX2_digitAtMost ks_yX2_digitAtMost km_X2_61 rfl (ci := 2) rfl rfl hc.1 (by decide) rfl (Nat.le_of_ble_eq_true rfl) dX2_readNumber_3 (fun w0 J hx => ?_)
  obtain ⟨rfl, h1, h2⟩ := hx
  by_cases hk : p_ok P len 9 a true = true
  · rw [if_pos hk]
    obtain ⟨k, hkm, ek, hkl⟩ := p_dv_n hG.1.1 (by decide) hk
    rw [hk] at h1
    have h1 : Pd q J P len (a + 1) L D S N X := h1
    refine q_istore_n B dX2_readNumber_6 rfl (Nat.le_of_ble_eq_true rfl) rfl ?_
    refine q_iload_n B dX2_readNumber_7 rfl rfl ?_
    refine q_if_ge (tgt := 13) B dX2_readNumber_8 (by decide) (fun _ => ?_) (fun h => absurd ((by rw [ek]; exact q_le (a := 0) (Nat.zero_le k) (by omega))) h)
    refine q_iload_n B dX2_readNumber_13 rfl rfl ?_
    refine q_if_ne (tgt := 21) B dX2_readNumber_14 (by decide) (fun c_14 => ?_) (fun c_14 => ?_)
    · skip
      refine q_aload_n B dX2_readNumber_21 rfl rfl ?_
      refine q_bipush (v := nI 9) B dX2_readNumber_22 rfl ?_
      refine q_rpV B (s_X2_digitAtMost hc h1 (m := 9) (by decide)) kv_yX2_digitAtMost ki_yX2_digitAtMost ks_yX2_digitAtMost km_X2_61 rfl (ci := 2) rfl rfl hc.1 (by decide) rfl (Nat.le_of_ble_eq_true rfl) dX2_readNumber_24 (fun w2 J2 hy => ?_)
      obtain ⟨rfl, h3, h4⟩ := hy
      by_cases hk2 : p_ok P len 9 (a + 1) true = true
      · rw [if_pos hk2]
        obtain ⟨k2, hkm2, ek2, hkl2⟩ := p_dv_n hG.1.1 (by decide) hk2
        rw [hk2] at h3
        have hG5 : Pd q J2 P len (a + 2) L D S N X := h3
        have hF5 := h2.tr h4
        have hpos : 0 < p_dv P len a := by rw [ek] at c_14 ⊢; exact (nI_ltI (a := 0) (by decide) (by omega)).mpr (by have : k ≠ 0 := fun z => c_14 (by rw [z]; rfl); omega)
        have hnum : p_num P len a true = ((nI 10 * p_dv P len a + p_s P len (a + 1)) - nI 48, a + 2, true) := by unfold p_num; rw [if_pos hk, if_pos ⟨hpos, by rw [← p_ok_in]; exact hk2⟩]
        refine q_istore_n B dX2_readNumber_27 rfl (Nat.le_of_ble_eq_true rfl) rfl ?_
        refine q_aload_n B dX2_readNumber_28 rfl rfl ?_
        refine q_iload_n B dX2_readNumber_29 rfl rfl ?_
        refine q_if_ge (tgt := 37) B dX2_readNumber_30 (by decide) (fun _ => ?_) (fun h => absurd ((by rw [ek2]; exact q_le (a := 0) (Nat.zero_le k2) (by omega))) h)
        refine q_bipush (v := nI 10) B dX2_readNumber_37 rfl ?_
        refine q_iload_n B dX2_readNumber_39 rfl rfl ?_
        refine q_imul B dX2_readNumber_40 ?_
        refine q_iload_n B dX2_readNumber_41 rfl rfl ?_
        refine q_iadd B dX2_readNumber_42 ?_
        refine q_top (y := (nI 10 * p_dv P len a + p_s P len (a + 1)) - nI 48) (by show _ + (p_s P len (a + 1) - nI 48) = _; rw [Int32.sub_eq_add_neg, Int32.sub_eq_add_neg, Int32.add_assoc]) ?_
        refine q_putI2 B kC_X2 (k := 5) (by decide) rfl kf_X2_27 rfl rfl rfl hc.1 dX2_readNumber_43 ?_
        refine q_iconst (v := 1) B dX2_readNumber_46 rfl ?_
        exact q_zret BM rfl (Or.inr rfl) dX2_readNumber_47 ⟨rfl, by rw [hk]; rfl, by rw [hnum, if_pos hk]; exact hG5.f5, hF5.tr FrP.set⟩
      · rw [if_neg hk2]
        have hk3 := Bool.eq_false_iff.mpr hk2
        rw [hk3] at h3
        have hG5 : Pd q J2 P len (a + 1) L D S N X := h3
        have hF5 := h2.tr h4
        have hnum : p_num P len a true = (p_dv P len a, a + 1, true) := by unfold p_num; rw [if_pos hk, if_neg (fun z => hk2 (by rw [p_ok_in]; exact z.2))]
        refine q_istore_n B dX2_readNumber_27 rfl (Nat.le_of_ble_eq_true rfl) rfl ?_
        refine q_aload_n B dX2_readNumber_28 rfl rfl ?_
        refine q_iload_n B dX2_readNumber_29 rfl rfl ?_
        refine q_if_ge (tgt := 37) B dX2_readNumber_30 (by decide) (fun h => absurd h ((by decide))) (fun _ => ?_)
        refine q_iload_n B dX2_readNumber_33 rfl rfl ?_
        refine q_goto (tgt := 43) B dX2_readNumber_34 (by decide) ?_
        refine q_putI2 B kC_X2 (k := 5) (by decide) rfl kf_X2_27 rfl rfl rfl hc.1 dX2_readNumber_43 ?_
        refine q_iconst (v := 1) B dX2_readNumber_46 rfl ?_
        exact q_zret BM rfl (Or.inr rfl) dX2_readNumber_47 ⟨rfl, by rw [hk]; rfl, by rw [hnum, if_pos hk]; exact hG5.f5, hF5.tr FrP.set⟩
    · skip
      have hnum : p_num P len a true = (p_dv P len a, a + 1, true) := by unfold p_num; rw [if_pos hk, if_neg (fun z => absurd z.1 (by rw [c_14]; decide))]
      have hG5 := h1
      have hF5 := h2
      refine q_iconst (v := -1) B dX2_readNumber_17 rfl ?_
      refine q_goto (tgt := 27) B dX2_readNumber_18 (by decide) ?_
      refine q_istore_n B dX2_readNumber_27 rfl (Nat.le_of_ble_eq_true rfl) rfl ?_
      refine q_aload_n B dX2_readNumber_28 rfl rfl ?_
      refine q_iload_n B dX2_readNumber_29 rfl rfl ?_
      refine q_if_ge (tgt := 37) B dX2_readNumber_30 (by decide) (fun h => absurd h ((by decide))) (fun _ => ?_)
      refine q_iload_n B dX2_readNumber_33 rfl rfl ?_
      refine q_goto (tgt := 43) B dX2_readNumber_34 (by decide) ?_
      refine q_putI2 B kC_X2 (k := 5) (by decide) rfl kf_X2_27 rfl rfl rfl hc.1 dX2_readNumber_43 ?_
      refine q_iconst (v := 1) B dX2_readNumber_46 rfl ?_
      exact q_zret BM rfl (Or.inr rfl) dX2_readNumber_47 ⟨rfl, by rw [hk]; rfl, by rw [hnum, if_pos hk]; exact hG5.f5, hF5.tr FrP.set⟩
  · rw [if_neg hk]
    refine q_istore_n B dX2_readNumber_6 rfl (Nat.le_of_ble_eq_true rfl) rfl ?_
    refine q_iload_n B dX2_readNumber_7 rfl rfl ?_
    refine q_if_ge (tgt := 13) B dX2_readNumber_8 (by decide) (fun h => absurd h ((by decide))) (fun _ => ?_)
    refine q_iconst (v := 0) B dX2_readNumber_11 rfl ?_
    exact q_zret BM rfl (Or.inl rfl) dX2_readNumber_12 ⟨rfl, by rw [Bool.eq_false_iff.mpr hk]; rfl, by unfold p_num; rw [if_neg hk, if_neg hk]; rw [Bool.eq_false_iff.mpr hk] at h1; exact h1, h2⟩
