theorem a_cmp5 {L i : Nat} (hL : L ≤ 2560) (hi : i < 2 ^ 30) (h : ¬ nI L - nI 5 < nI i) : i + 5 ≤ L := by
  by_cases h5 : 5 ≤ L
  · rw [q_nI_sub h5] at h
    have : ¬ L - 5 < i := fun z => h ((nI_ltI (a := L - 5) (b := i) (by omega) (by omega)).mpr z)
    omega
  · have key : ∀ L, L < 5 → nI L - nI 5 < 0 := by decide +kernel
    exact absurd (Int32.lt_of_lt_of_le (key L (by omega)) (nI_pos' (by omega))) h
section LOOP
variable {Γ : q_Cx} {nm : String} {b L d o : Nat} {xs : Nat → Int32}
theorem l_head {rc rs i : Nat} {Sh : q_Sh} {I : q_Mem} (B : q_Ok Γ (l_Y nm) 10) (hX : va_X b L xs (q_s Γ) (q_s Γ).heap ∧ b < (q_s Γ).heap.size ∧ ¬ q_A Γ b ∧ L < 2 ^ 31) (hL : L ≤ 2560) (hi : i < 2 ^ 30) (hend : l_W Γ rc rs Sh I 674 (l_LF b d o i) []) (hk : i + 5 ≤ L → l_W Γ rc rs Sh I 26 (l_LF b d o i) []) : l_W Γ rc rs Sh I 18 (l_LF b d o i) [] := by
  refine l_iload_n B dL_law_18 rfl (fun ad => l_LF3) ?_
  refine l_len B hX (fun ad => l_LF0) dL_law_19 dL_law_20 ?_
  refine l_iconst (v := nI 5) B dL_law_21 rfl ?_
  refine l_isub B dL_law_22 ?_
  exact l_icmp_gt (tgt := 674) B dL_law_23 (by decide) (fun _ => hend) (fun c => hk (a_cmp5 hL hi c))
theorem l_loop (B : q_Ok Γ (l_Y nm) 10) (hX : va_X b L xs (q_s Γ) (q_s Γ).heap ∧ b < (q_s Γ).heap.size ∧ ¬ q_A Γ b ∧ L < 2 ^ 31) (hL : L ≤ 2560) (hend : ∀ i Sh I, l_W Γ 0 0 Sh I 674 (l_LF b d o i) []) :
    ∀ n i Sh I, L ≤ i + 5 * n → i ≤ L + 5 → l_I d o Sh I → l_W Γ (47 * n) (343 * n) Sh I 18 (l_LF b d o i) [] := by
  intro n
  induction n with
  | zero =>
    intro i Sh I h1 h2 hI
    exact l_head B hX hL (by omega) (l_less (Nat.zero_le _) (Nat.zero_le _) (hend i Sh I)) (fun z => absurd z (by omega))
  | succ n ih =>
    intro i Sh I h1 h2 hI
    refine l_head B hX hL (by omega) (l_less (Nat.zero_le _) (Nat.zero_le _) (hend i Sh I)) (fun z => ?_)
    refine l_less (rc' := 47 * n + 47) (rs' := 343 * n + 343) (by omega) (by omega) (l_body B hX z hI fun S J hI2 => ?_)
    refine l_iinc (q := 0) (x := nI i) (v := nI (i + 5)) (lf2 := l_LF b d o (i + 5)) B dL_law_668 (fun ad => rfl) (nI_add i 5) (by decide) (fun ad => rfl) ?_
    exact l_goto (tgt := 18) B dL_law_671 (by decide) (ih (i + 5) S J (by omega) (by omega) hI2)
end LOOP
def l_S0 : q_Sh := (0, fun _ => .inl 0, fun _ _ => none)
theorem l_first_I {d o : Nat} {S2 S3 : q_Sh} {J2 J3 : q_Mem} (hd : d + 429 = o) (h1 : dOk S2 d) (hS : S2.1 = o) (hno : ∀ c, S2.2.2 (d + 426) c = none) (hr : Rs (d + 1) J2 a_new) (hp : J2 (d + 95) 0 = 0 ∧ J2 (d + 95) 1 = 0) (hl : J2 (d + 427) 0 = 0) (hg : q_gr o S2 S3) (hm : mOk S3 o) (hcl : q_cl S3) (hJ : ∀ l, l < o → J3 l = J2 l) (hs : J3 (o + 1) = a_new) (h0 : J3 o 0 = 0 ∧ J3 o 4 = 0 ∧ J3 o 8 = 0) (h5 : ∀ c, J3 (o + 5) c = 0) : l_I d o S3 J3 := by
  have hno3 : ∀ c, S3.2.2 (d + 426) c = none := fun c => hg.rf2 (by omega) (hno c)
  refine ⟨by omega, a_new, 0, fun _ => a_new, J3 (o + 6), 0, fun _ => none, ⟨⟨h1.gx hg.x (by omega), hm, hcl⟩, ⟨hr.loc (fun l a b => hJ l (by omega)), 0, ?_, ?_, by decide, by decide, fun i hi => absurd hi (Nat.not_lt_zero i)⟩, ⟨⟨by decide, fun j hj => absurd hj (Nat.not_lt_zero j)⟩, ?_, fun j hj => absurd hj (Nat.not_lt_zero j)⟩, fun c hc => Or.inl ⟨hno3 c, rfl⟩, fun a b ha hb => ?_⟩, hs, h0, fun i hi => absurd hi (Nat.not_lt_zero i), rfl, fun c hc => Or.inl ⟨rfl, h5 c⟩⟩
  · rw [hJ _ (by omega)]; exact hp.1
  · rw [hJ _ (by omega)]; exact hp.2
  · rw [hJ _ (by omega)]; exact hl
  · rw [hno3 0] at ha; cases ha
set_option maxRecDepth 100000 in
set_option maxHeartbeats 4000000 in
theorem l_start {Γ : q_Cx} {nm : String} {b L : Nat} {xs : Nat → Int32} (B : q_Ok Γ (l_Y nm) 10) (hX : va_X b L xs (q_s Γ) (q_s Γ).heap ∧ b < (q_s Γ).heap.size ∧ ¬ q_A Γ b ∧ L < 2 ^ 31) (hL : L ≤ 2560) (hend : ∀ d o i Sh I, l_W Γ 0 0 Sh I 674 (l_LF b d o i) []) : l_W Γ 600000 7302250 l_S0 (fun _ _ => 0) 0 (fun _ => [(0, .ref b)]) [] := by
  refine l_less (rc' := 599999 + 1) (rs' := 7302245 + 5) (Nat.le_of_ble_eq_true rfl) (Nat.le_of_ble_eq_true rfl) ?_
  refine l_new B kC_X6 kl_L_7 k1_X6 k0_X6 (by decide +kernel) (fun l j hl => absurd hl (Nat.not_lt_zero l)) ⟨fun ad ad' _ => rfl, l_old0⟩ dL_law_0 ?_
  have c0 : q_cl l_S0 := fun l j x hl => absurd hl (Nat.not_lt_zero l)
  have i1 : q_is (q_nS l_S0 (.inl 6)) 0 6 := q_nS_is (S := l_S0)
  have c1 := q_nS_cl (kd := .inl 6) c0
  have e1 : (q_nS l_S0 (.inl 6)).1 = 0 + 1 := rfl
  generalize q_nS l_S0 (.inl 6) = S1 at i1 c1 e1 ⊢
  generalize q_nI (fun _ _ => 0) l_S0.1 = J1
  refine l_dup B dL_law_3 rfl ?_
  refine l_callI (rc := 599571) (mc := 428) (rs := 7299058) (ms := 3187) (As := []) B (s_X6_init i1 e1 c1) kv_yX6_init ki_yX6_init rfl rfl km_L_9 rfl (by decide) (Nat.le_of_ble_eq_true rfl) ⟨fun ad ad' _ => rfl, fun v hv y ey => by
    rcases List.mem_cons.mp hv with rfl | hv
    · cases ey; rw [e1]; decide
    · cases hv⟩ dL_law_4 (fun w S2 J2 hx => ?_)
  obtain ⟨rfl, h1, hS2, c2, -, hno, hr, hp, hl, -⟩ := hx
  have hS2 : S2.1 = 0 + 429 := hS2
  have h1 : dOk S2 0 := h1
  refine l_astore_n (lf2 := fun ad => [(1, .ref (ad 0)), (0, .ref b)]) B dL_law_7 rfl (by decide) (fun ad => rfl) ?_
  refine l_less (rc' := 599570 + 1) (rs' := 7299045 + 13) (Nat.le_of_ble_eq_true rfl) (Nat.le_of_ble_eq_true rfl) ?_
  refine l_new B kC_X7 kl_L_10 k1_X7 k0_X7 (by decide +kernel) (q_cl_f c2) ⟨fun ad ad' h => by have h0 : ad' 0 = ad 0 := h 0 (by omega); simp only [h0], l_old0⟩ dL_law_8 ?_
  refine l_dup B dL_law_11 rfl ?_
  refine l_callI (rc := 599563) (mc := 7) (rs := 7296053) (ms := 2992) (As := []) B (s_X7_init (o := S2.1) q_nS_is rfl (q_nS_cl c2) (fun k => by simp [q_nI])) kv_yX7_init ki_yX7_init rfl rfl km_L_12 rfl (by decide) (Nat.le_of_ble_eq_true rfl) ⟨fun ad ad' h => by have h0 : ad' 0 = ad 0 := h 0 (Nat.zero_lt_succ _); simp only [h0], fun v hv y ey => by
    rcases List.mem_cons.mp hv with rfl | hv
    · cases ey; exact Nat.lt_succ_self _
    · cases hv⟩ dL_law_12 (fun w S3 J3 hx => ?_)
  obtain ⟨rfl, hm, hS3, c3, hg, hs, h0, h5, hJ⟩ := hx
  have hI : l_I 0 S2.1 S3 J3 := l_first_I hS2.symm h1 rfl hno hr hp hl (q_nS_gr.tr hg (Nat.le_refl _)) hm c3 (fun l hl => (hJ l hl).trans (q_nI_ne (by omega))) hs h0 h5
  refine l_astore_n (lf2 := fun ad => [(2, .ref (ad S2.1)), (1, .ref (ad 0)), (0, .ref b)]) B dL_law_15 rfl (by decide) (fun ad => rfl) ?_
  refine l_iconst (v := nI 0) B dL_law_16 rfl ?_
  refine l_istore_n (lf2 := l_LF b 0 S2.1 0) B dL_law_17 rfl (by decide) (fun ad => rfl) ?_
  exact l_less (rc' := 47 * 512) (rs' := 343 * 512) (Nat.le_of_ble_eq_true rfl) (Nat.le_of_ble_eq_true rfl) (l_loop B hX hL (fun i Sh I => hend 0 S2.1 i Sh I) 512 0 S3 J3 (by omega) (Nat.zero_le _) hI)
theorem l_arrP {args : Array Value} {s : State} {ty : FieldType} (h : (Cond.arrayClass ty).before args s = true) : ∃ c, ArrOfT s c ty ∧ s.vm.findClass ("[" ++ ty.toString) = some c := by
  obtain ⟨c, k, comp, h1, h2, h3⟩ := Cond.arrayClass_spec h
  exact ⟨c, fun n z => ⟨fun k h => (by cases h), k, h2, comp, h3⟩, h1⟩
theorem l_arrO {args : Array Value} {s : State} {C : String} (h : (Cond.arrayOver (.object C)).before args s = true) : ∃ c, ArrOfT s c (.object C) ∧ va_RA s c (.object C) := by
  obtain ⟨comp, c, k, h1, -, h2, h3, h4⟩ := Cond.arrayOver_spec h
  exact ⟨c, fun n z => ⟨fun k h => (by cases h), k, h2, comp, h3⟩, k, comp, h2, h3, h1, h4⟩
theorem l_tb {args : Array Value} {s : State} (hts : ∀ w ∈ lw_tbl, w.before args s = true) (i : Nat) {w : Cond} (h : lw_tbl[i]? = some w) : w.before args s = true := hts w (List.mem_of_getElem? h)
theorem l_ext {args : Array Value} {s : State} (hts : ∀ w ∈ lw_tbl, w.before args s = true) : q_ext s := by
  refine ⟨fun w hw => ?_, fun C hC => ?_⟩
  · simp only [q_nl, List.mem_cons, List.not_mem_nil, or_false] at hw
    rcases hw with rfl | rfl | rfl | rfl | rfl | rfl | rfl
    · exact va_Nw.of rfl (l_tb hts 85 (by decide +kernel))
    · exact va_Nw.of rfl (l_tb hts 130 (by decide +kernel))
    · exact va_Nw.of rfl (l_tb hts 166 (by decide +kernel))
    · exact va_Nw.of rfl (l_tb hts 228 (by decide +kernel))
    · exact va_Nw.of rfl (l_tb hts 325 (by decide +kernel))
    · exact va_Nw.of rfl (l_tb hts 351 (by decide +kernel))
    · exact va_Nw.of rfl (l_tb hts 378 (by decide +kernel))
  · simp only [q_al, List.mem_cons, List.not_mem_nil, or_false] at hC
    rcases hC with rfl | rfl | rfl | rfl
    · exact va_AO.of (l_tb hts 213 (by decide +kernel))
    · exact va_AO.of (l_tb hts 81 (by decide +kernel))
    · exact va_AO.of (l_tb hts 83 (by decide +kernel))
    · exact va_AO.of (l_tb hts 79 (by decide +kernel))
theorem l_known {args : Array Value} {s : State} (hts : ∀ w ∈ lw_tbl, w.before args s = true) : ∃ (D : va_G) (cA : Nat → ClassId), va_K D vwCl (q_tys cA) s := by
  have hq : ∀ w ∈ q_WS, w.before args s = true := fun w hw => hts w (List.mem_filter.mp hw).1
  obtain ⟨c0, i0, h0⟩ := u_known (C := RX0) (T := TX0) (N := 6) (n := 6) hq kC_X0.2.1 (hq _ k1_X0)
  obtain ⟨c1, i1, h1⟩ := u_known (C := RX1) (T := TX1) (N := 6) (n := 6) hq kC_X1.2.1 (hq _ k1_X1)
  obtain ⟨c2, i2, h2⟩ := u_known (C := RX2) (T := TX2) (N := 8) (n := 8) hq kC_X2.2.1 (hq _ k1_X2)
  obtain ⟨c3, i3, h3⟩ := u_known (C := RX3) (T := TX3) (N := 3) (n := 3) hq kC_X3.2.1 (hq _ k1_X3)
  obtain ⟨c4, i4, h4⟩ := u_known (C := RX4) (T := TX4) (N := 3) (n := 3) hq kC_X4.2.1 (hq _ k1_X4)
  obtain ⟨c5, i5, h5⟩ := u_known (C := RX5) (T := TX5) (N := 8) (n := 8) hq kC_X5.2.1 (hq _ k1_X5)
  obtain ⟨c6, i6, h6⟩ := u_known (C := RX6) (T := TX6) (N := 5) (n := 5) hq kC_X6.2.1 (hq _ k1_X6)
  obtain ⟨c7, i7, h7⟩ := u_known (C := RX7) (T := TX7) (N := 13) (n := 13) hq kC_X7.2.1 (hq _ k1_X7)
  obtain ⟨a0, z0⟩ := l_arrP (hq _ ka_int)
  obtain ⟨a1, z1⟩ := l_arrP (hq _ ka_boolean)
  obtain ⟨a2, z2⟩ := l_arrP (hq _ ka_char)
  obtain ⟨a3, z3⟩ := l_arrO (C := RX5) (l_tb hts 79 (by decide +kernel))
  obtain ⟨a4, z4⟩ := l_arrO (C := RX1) (l_tb hts 81 (by decide +kernel))
  obtain ⟨a5, z5⟩ := l_arrO (C := RX3) (l_tb hts 83 (by decide +kernel))
  obtain ⟨a6, z6⟩ := l_arrO (C := RX0) (l_tb hts 213 (by decide +kernel))
  refine ⟨(fun k => match k with | 0 => c0 | 1 => c1 | 2 => c2 | 3 => c3 | 4 => c4 | 5 => c5 | 6 => c6 | _ => c7, fun k => match k with | 0 => i0 | 1 => i1 | 2 => i2 | 3 => i3 | 4 => i4 | 5 => i5 | 6 => i6 | _ => i7), fun k => match k with | 0 => a0 | 1 => a1 | 2 => a2 | 3 => a3 | 4 => a4 | 5 => a5 | _ => a6, fun c q hc => ?_, fun k q hk => ?_⟩
  · match c, hc with
    | 0, hc => cases hc; exact h0
    | 1, hc => cases hc; exact h1
    | 2, hc => cases hc; exact h2
    | 3, hc => cases hc; exact h3
    | 4, hc => cases hc; exact h4
    | 5, hc => cases hc; exact h5
    | 6, hc => cases hc; exact h6
    | 7, hc => cases hc; exact h7
    | c + 8, hc => simp [vwCl] at hc
  · match k, hk with
    | 0, hk => cases hk; exact z0
    | 1, hk => cases hk; exact z1
    | 2, hk => cases hk; exact z2
    | 3, hk => cases hk; exact z3
    | 4, hk => cases hk; exact z4
    | 5, hk => cases hk; exact z5
    | 6, hk => cases hk; exact z6
    | k + 7, hk => simp [q_tys] at hk
