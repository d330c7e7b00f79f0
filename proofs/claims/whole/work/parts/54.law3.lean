theorem l_P_of2 {YC YM : q_Mth} {args : List Value} {d o u u2 len len2 dC dM mc ms : Nat} {Sh : q_Sh} {I : q_Mem} {σ σ2 P P2 : a_A} {H H2 : Nat → a_A} {Q Q2 : Nat → Option a_A} {v : Int32} (hd : d + 429 ≤ o) (hdC : dC ≤ 9) (hdM : dM ≤ 9) (hmc : mc ≤ 47) (hms : ms ≤ 343) (hM : l_M o I σ u H P len Q)
    (kC : q_Call YC dC mc ms (.ref d :: args) Sh I (fun w S J => w = some (.int v) ∧ l_C d o S J σ2 u2 H2 P2 len2 Q2 ∧ F_M o I J))
    (kM : ∀ S J, mOk S o → l_M o J σ u H P len Q → F_M o I J → q_Rp YM dM (.ref o :: args) S J (fun w J2 => w = some (.int v) ∧ l_M o J2 σ2 u2 H2 P2 len2 Q2 ∧ F_C o J J2)) : l_P YC YM args d o Sh I := by
  refine ⟨dC, dM, mc, ms, v, fun S J => l_C d o S J σ2 u2 H2 P2 len2 Q2 ∧ l_M o J σ u H P len Q ∧ F_M o I J, ⟨hdC, hdM, hmc, hms⟩, q_call_mono kC fun w S J q => ⟨q.1, q.2.1, hM.fr q.2.2, q.2.2⟩, ?_⟩
  rintro S J ⟨q1, q2, q3⟩
  refine ⟨⟨by have := dHi q1.1.1; omega, q1.1.2.1.1⟩, q_call_mono (kM S J q1.1.2.1 q2 q3) fun w S2 J2 r => ?_⟩
  obtain ⟨rfl, r1, r2, r3⟩ := r
  exact ⟨r1, hd, _, _, _, _, _, _, q1.fr hd r3, r2⟩
/-- the length of the pad set -/
theorem l_M.ln {o u len len2 : Nat} {I : q_Mem} {σ P P2 : a_A} {H : Nat → a_A} {Q : Nat → Option a_A} {x : Int32} (h : l_M o I σ u H P len Q) (hx : x = nI len2) (hP : I (o + 6) = P2) : l_M o (q_setA I o (upd (I o) 8 x)) σ u H P2 len2 Q := by
  obtain ⟨h1, ⟨h2, h3, h4⟩, h5, h6, h7⟩ := h
  unfold l_M
  rw [q_setA_at, q_setA_ne (show o + 1 ≠ o by omega), q_setA_ne (show o + 3 ≠ o by omega), q_setA_ne (show o + 4 ≠ o by omega), q_setA_ne (show o + 5 ≠ o by omega), q_setA_ne (show o + 6 ≠ o by omega), q_upd_ne (by decide), q_upd_ne (by decide), q_upd_at]
  exact ⟨h1, ⟨h2, h3, hx⟩, h5, hP, h7⟩
theorem l_M.rd {o u len n : Nat} {I : q_Mem} {σ P : a_A} {H : Nat → a_A} {Q : Nat → Option a_A} (h : l_M o I σ u H P len Q) : l_M o (a_rdM I o n) σ u H P len Q ∧ F_C o I (a_rdM I o n) := by
  obtain ⟨h1, ⟨h2, h3, h4⟩, h5, h6, h7⟩ := h
  refine ⟨?_, fun l hl => a_rdM_at (by omega) (by omega)⟩
  unfold l_M
  rw [a_rdM_at (l := o + 1) (by omega) (by omega), a_rdM_at (l := o + 3) (by omega) (by omega), a_rdM_at (l := o + 4) (by omega) (by omega), a_rdM_at (l := o + 5) (by omega) (by omega), a_rdM_at (l := o + 6) (by omega) (by omega), a_rdM_o (by decide) (by decide) (by decide), a_rdM_o (by decide) (by decide) (by decide), a_rdM_o (by decide) (by decide) (by decide)]
  exact ⟨h1, ⟨h2, h3, h4⟩, h5, h6, h7⟩
theorem F_C.tr {o : Nat} {I J K : q_Mem} (h : F_C o I J) (k : F_C o J K) : F_C o I K := fun l hl => (k l hl).trans (h l hl)
theorem F_C.set {o l : Nat} {I : q_Mem} {f : a_A} (h1 : o ≤ l) (h2 : l < o + 8) : F_C o I (q_setA I l f) := fun m hm => q_setA_ne (by omega)
section THEPAIRS2
variable {d o : Nat} {Sh : q_Sh} {I : q_Mem}
theorem l_put (h : l_I d o Sh I) {x : Int64} : l_P mX6_put mX7_put [.long x] d o Sh I := by
  obtain ⟨hd, σ, u, H, P, len, Q, hC, hM⟩ := h
  have hlen : len ≤ 80 := hC.2.2.1.1.1
  by_cases hno : a_padB x ∨ 80 < len + (a_pL 8 0 x 1).1
  · exact l_P_no hd (by decide) (by decide) hC hM (l_rd hC.2.1 (s_X6_put_no hC.1.1 hC.2.2.1 hno)) (fun J hJ => l_rt (s_put_no hC.1.2.1 hJ.2.1.1 hlen hJ.2.1.2.2 hno))
  · have hB : ¬ a_padB x := fun z => hno (Or.inl z)
    have h80 : len + (a_pL 8 0 x 1).1 ≤ 80 := Nat.not_lt.mp fun z => hno (Or.inr z)
    refine l_P_of (dM := 1) (v := nI (len + (a_pL 8 0 x 1).1)) (σ2 := σ) (u2 := u) (H2 := H) (P2 := a_padW P x len (a_pL 8 0 x 1).1) (len2 := len + (a_pL 8 0 x 1).1) (Q2 := Q) hd (by decide) (by decide) hM (q_rp_mono (s_X6_put_yes hC.1.1 hC.2.2.1 hB rfl h80) fun w J q => ?_) (fun J hJ _ => ?_)
    · obtain ⟨rfl, q1, q2⟩ := q
      obtain ⟨g1, g2⟩ := hC.pd hd (hC.2.1.loc (fun l a b => q2 l (by omega) (by omega))) q1 (fun l hl => q2 l (by omega) (by omega))
      exact ⟨rfl, g1, g2⟩
    · have k := s_put_yes (σ := σ) hC.1.2.1 hJ.2.1.1 hlen hJ.2.1.2.2 hno
      rw [l_self hJ.1] at k
      refine q_rp_mono (q_rt_rp k) fun w J2 q => ?_
      obtain ⟨rfl, rfl⟩ := q
      have k2 : l_M o (q_setA J (o + 6) (a_padW (J (o + 6)) x len (a_pL 8 0 x 1).1)) σ u H (a_padW P x len (a_pL 8 0 x 1).1) len Q := by
        obtain ⟨h1, ⟨h2, h3, h4⟩, h5, h6, h7⟩ := hJ
        unfold l_M
        rw [q_setA_at, q_setA_ne (show o ≠ o + 6 by omega), q_setA_ne (show o + 1 ≠ o + 6 by omega), q_setA_ne (show o + 3 ≠ o + 6 by omega), q_setA_ne (show o + 4 ≠ o + 6 by omega), q_setA_ne (show o + 5 ≠ o + 6 by omega), h6]
        exact ⟨h1, ⟨h2, h3, h4⟩, h5, rfl, h7⟩
      have k3 := k2.ln (len2 := len + (a_pL 8 0 x 1).1) rfl k2.2.2.2.1
      rw [q_setA_ne (show o ≠ o + 6 by omega)] at k3
      rw [l_self k3.1]
      exact ⟨rfl, k3, (F_C.set (by omega) (by omega)).tr (F_C.set (by omega) (by omega))⟩
theorem l_wipe (h : l_I d o Sh I) : l_P mX6_wipe mX7_wipe [] d o Sh I := by
  obtain ⟨hd, σ, u, H, P, len, Q, hC, hM⟩ := h
  refine l_P_of (dM := 0) (v := nI len) (σ2 := σ) (u2 := u) (H2 := H) (P2 := P) (len2 := 0) (Q2 := Q) hd (by decide) (by decide) hM (q_rp_mono (q_rt_rp (s_X6_wipe hC.1.1 hC.2.2.1.2.1)) fun w J q => ?_) (fun J hJ _ => ?_)
  · obtain ⟨rfl, rfl⟩ := q
    obtain ⟨g1, g2⟩ := hC.pd (J := q_setA I (d + 427) (upd (I (d + 427)) 0 0)) hd (hC.2.1.loc (fun l a b => q_setA_ne (by omega))) (P2 := P) (len2 := 0) ⟨⟨by decide, fun j hj => absurd hj (Nat.not_lt_zero j)⟩, by rw [q_setA_at, q_upd_at]; rfl, fun j hj => absurd hj (Nat.not_lt_zero j)⟩ (fun l hl => q_setA_ne (by omega))
    exact ⟨rfl, g1, g2⟩
  · have k := s_wipe (σ := σ) hC.1.2.1 hJ.2.1.1
    rw [l_self hJ.1, hJ.2.1.2.2] at k
    refine q_rp_mono (q_rt_rp k) fun w J2 q => ?_
    obtain ⟨rfl, rfl⟩ := q
    have k3 := hJ.ln (x := 0) (len2 := 0) rfl hJ.2.2.2.1
    rw [l_self k3.1]
    exact ⟨rfl, k3, F_C.set (by omega) (by omega)⟩
theorem l_fault (h : l_I d o Sh I) : l_P mX6_fault mX7_fault [] d o Sh I := by
  obtain ⟨hd, σ, u, H, P, len, Q, hC, hM⟩ := h
  have hlen : len ≤ 80 := hC.2.2.1.1.1
  refine l_P_of (dM := 5) (v := if (p_all P len (I (o + 7))).2.2.2 = true then -6 else nI (p_all P len (I (o + 7))).2.2.1) (σ2 := σ) (u2 := u) (H2 := H) (P2 := P) (len2 := len) (Q2 := Q) hd (by decide) (by decide) hM (q_rp_mono (s_X6_fault (O0 := I (o + 7)) hC.1.1 hC.2.2.1) fun w J q => ?_) (fun J hJ hF => ?_)
  · obtain ⟨rfl, q1, q2⟩ := q
    obtain ⟨g1, g2⟩ := hC.pd hd (hC.2.1.loc (fun l a b => q2 l (by omega))) q1 (fun l hl => q2 l (by omega))
    exact ⟨rfl, g1, g2⟩
  · have k := s_fault (σ := σ) hC.1.2.1 hJ.2.1.1 hlen hJ.2.1.2.2
    rw [l_self hJ.1, hJ.2.2.2.1, hF (o + 7) (by omega) (by omega)] at k
    refine q_rp_mono (q_rt_rp k) fun w J2 q => ?_
    obtain ⟨rfl, rfl⟩ := q
    obtain ⟨k3, k4⟩ := hJ.rd (n := len)
    rw [l_self k3.1]
    exact ⟨rfl, k3, k4⟩
theorem l_carryOut (h : l_I d o Sh I) : l_P mX6_carryOut mX7_carryOut [] d o Sh I := by
  obtain ⟨hd, σ, u, H, P, len, Q, hC, hM⟩ := h
  have hlen : len ≤ 80 := hC.2.2.1.1.1
  have hW := hC.2.1.1.2.2
  have hu : u ≤ 6 := hC.2.1.2.elim fun n q => q.2.2.1
  cases hf : (p_all P len (I (o + 7))).2.2.2 with
  | false =>
    refine l_P_of (dM := 7) (v := -3) (σ2 := σ) (u2 := u) (H2 := H) (P2 := P) (len2 := len) (Q2 := Q) hd (by decide) (by decide) hM (q_rp_mono (s_X6_carryOut_no (O0 := I (o + 7)) hC.1.1 hC.2.1 hC.2.2.1 hf) fun w J q => ?_) (fun J hJ hF => ?_)
    · obtain ⟨rfl, q0, q1, q2⟩ := q
      obtain ⟨g1, g2⟩ := hC.pd hd q0 q1 (fun l hl => q2 l (by omega))
      exact ⟨rfl, g1, g2⟩
    · have k := s_carryOut_no (σ := σ) hC.1.2.1 hW hJ.2.1.1 hlen hJ.2.1.2.2 (by rw [hJ.2.2.2.1, hF (o + 7) (by omega) (by omega)]; exact hf)
      rw [l_self hJ.1] at k
      refine q_rp_mono (q_rt_rp k) fun w J2 q => ?_
      obtain ⟨rfl, rfl⟩ := q
      obtain ⟨k3, k4⟩ := hJ.rd (n := len)
      rw [l_self k3.1]
      exact ⟨rfl, k3, k4⟩
  | true =>
    refine l_P_of (dM := 7) (v := nI (a_co (p_all P len (I (o + 7))).2.1 (p_all P len (I (o + 7))).1 0 σ).1) (σ2 := (a_co (p_all P len (I (o + 7))).2.1 (p_all P len (I (o + 7))).1 0 σ).2) (u2 := a_recN u) (H2 := a_push u H σ) (P2 := P) (len2 := 0) (Q2 := Q) hd (by decide) (by decide) hM (q_rp_mono (s_X6_carryOut_yes (O0 := I (o + 7)) hC.1.1 hC.2.1 hC.2.2.1 hf) fun w J q => ?_) (fun J hJ hF => ?_)
    · obtain ⟨rfl, q0, q1, q2⟩ := q
      obtain ⟨g1, g2⟩ := hC.pd hd q0 (P2 := P) (len2 := 0) ⟨⟨by decide, fun j hj => absurd hj (Nat.not_lt_zero j)⟩, q1, fun j hj => absurd hj (Nat.not_lt_zero j)⟩ q2
      exact ⟨rfl, g1, g2⟩
    · have k := s_carryOut_yes (σ := σ) hC.1.2.1 hW hJ.2.1.1 hlen hJ.2.1.2.2 hu hJ.2.1.2.1 (by rw [hJ.2.2.2.1, hF (o + 7) (by omega) (by omega)]; exact hf)
      rw [l_self hJ.1, hJ.2.2.2.1, hF (o + 7) (by omega) (by omega)] at k
      refine q_rp_mono (q_rt_rp k) fun w J2 q => ?_
      obtain ⟨rfl, rfl⟩ := q
      obtain ⟨k3, k4⟩ := hJ.rd (n := len)
      obtain ⟨k5, k6⟩ := k3.rec hu (σ2 := (a_co (p_all P len (I (o + 7))).2.1 (p_all P len (I (o + 7))).1 0 σ).2)
      have k7 := k5.ln (x := 0) (len2 := 0) rfl k5.2.2.2.1
      have e : q_setA (a_coM J o len σ) (o + 1) (a_co (p_all P len (I (o + 7))).2.1 (p_all P len (I (o + 7))).1 0 σ).2 = q_setA (q_setA (a_rec (a_rdM J o len) o σ) (o + 1) (a_co (p_all P len (I (o + 7))).2.1 (p_all P len (I (o + 7))).1 0 σ).2) o (upd (q_setA (a_rec (a_rdM J o len) o σ) (o + 1) (a_co (p_all P len (I (o + 7))).2.1 (p_all P len (I (o + 7))).1 0 σ).2 o) 8 0) := by
        rw [q_setA_ne (show o ≠ o + 1 by omega), q_setA_comm (show o + 1 ≠ o by omega)]
        rfl
      rw [e]
      exact ⟨rfl, k7, (k4.tr k6).tr (F_C.set (by omega) (by omega))⟩
theorem l_undo (h : l_I d o Sh I) : l_P mX6_undo mX7_undo [] d o Sh I := by
  obtain ⟨hd, σ, u, H, P, len, Q, hC, hM⟩ := h
  have hW := hC.2.1.1.2.2
  have hu : u ≤ 6 := hC.2.1.2.elim fun n q => q.2.2.1
  cases u with
  | zero => exact l_P_no hd (by decide) (by decide) hC hM (l_rd hC.2.1 (s_X6_undo_no hC.1.1 hC.2.1 rfl)) (fun J hJ => l_rt (s_undo_no hC.1.2.1 hW hJ.2.1.1 hJ.2.1.2.1))
  | succ v =>
    refine l_P_of (dM := 0) (v := nI v) (σ2 := fun k => I (o + 3) (267 * v + k)) (u2 := v) (H2 := H) (P2 := P) (len2 := len) (Q2 := Q) hd (by decide) (by decide) hM (q_rp_mono (s_X6_undo_yes hC.1.1 hC.2.1) fun w J q => ?_) (fun J hJ hF => ?_)
    · obtain ⟨rfl, q0, q1⟩ := q
      obtain ⟨g1, g2⟩ := hC.ch hd (q0.cong (τ := fun k => I (o + 3) (267 * v + k)) (fun k hk => hM.2.2.1 v (by omega) k hk)) q1
      exact ⟨rfl, g1, g2⟩
    · have k := s_undo_yes (σ := σ) (v := v) hC.1.2.1 hW hJ.2.1.1 (by omega) hJ.2.1.2.1
      rw [l_self hJ.1, hF (o + 3) (by omega) (by omega)] at k
      refine q_rp_mono (q_rt_rp k) fun w J2 q => ?_
      obtain ⟨rfl, rfl⟩ := q
      refine ⟨rfl, ?_, (F_C.set (by omega) (by omega)).tr (F_C.set (by omega) (by omega))⟩
      obtain ⟨h1, ⟨h2, h3, h4⟩, h5, h6, h7⟩ := hJ
      unfold l_M
      rw [q_setA_at, q_setA_ne (show o ≠ o + 1 by omega), q_setA_ne (show o + 3 ≠ o + 1 by omega), q_setA_ne (show o + 4 ≠ o + 1 by omega), q_setA_ne (show o + 5 ≠ o + 1 by omega), q_setA_ne (show o + 6 ≠ o + 1 by omega),
        q_setA_at, q_setA_ne (show o + 3 ≠ o by omega), q_setA_ne (show o + 4 ≠ o by omega), q_setA_ne (show o + 5 ≠ o by omega), q_setA_ne (show o + 6 ≠ o by omega), q_upd_ne (by decide), q_upd_at, q_upd_ne (by decide)]
      exact ⟨rfl, ⟨h2, rfl, h4⟩, fun i hi k hk => h5 i (by omega) k hk, h6, h7⟩
end THEPAIRS2
