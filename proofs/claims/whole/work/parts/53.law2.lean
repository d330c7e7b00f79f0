theorem l_self {J : q_Mem} {l : Nat} {σ : a_A} (h : J l = σ) : q_setA J l σ = J := by rw [← h]; exact q_setA_self J l
theorem l_M.fr2 {o u len : Nat} {I J : q_Mem} {σ P : a_A} {H : Nat → a_A} {Q : Nat → Option a_A} (h : l_M o I σ u H P len Q) (k : ∀ l, o ≤ l → l < o + 8 → l ≠ o + 2 → l ≠ o + 7 → J l = I l) : l_M o J σ u H P len Q := by
  obtain ⟨h1, ⟨h2, h3, h4⟩, h5, h6, h7⟩ := h
  unfold l_M
  rw [k (o + 1) (by omega) (by omega) (by omega) (by omega), k o (by omega) (by omega) (by omega) (by omega), k (o + 3) (by omega) (by omega) (by omega) (by omega), k (o + 4) (by omega) (by omega) (by omega) (by omega), k (o + 5) (by omega) (by omega) (by omega) (by omega), k (o + 6) (by omega) (by omega) (by omega) (by omega)]
  exact ⟨h1, ⟨h2, h3, h4⟩, h5, h6, h7⟩
section PAIRS
variable {YC YM : q_Mth} {args : List Value} {d o u len dC dM : Nat} {Sh : q_Sh} {I : q_Mem} {σ σ2 P : a_A} {H : Nat → a_A} {Q : Nat → Option a_A} {ref yes v : Int32}
theorem l_P_ch (hd : d + 429 ≤ o) (hdC : dC ≤ 9) (hdM : dM ≤ 9) (hC : l_C d o Sh I σ u H P len Q) (hM : l_M o I σ u H P len Q)
    (kC : q_Rp YC dC (.ref d :: args) Sh I (fun w J => Dn d I ref yes σ σ2 u H w J))
    (kn : ref ≠ 0 → ∀ J : q_Mem, J o 0 = nI 0 → q_Rt YM dM (.ref o :: args) Sh (q_setA J (o + 1) σ) (some (.int ref)) (q_setA J (o + 1) σ))
    (ky : ref = 0 → ∀ J : q_Mem, J o 0 = nI 0 → J o 4 = nI u → q_Rt YM dM (.ref o :: args) Sh (q_setA J (o + 1) σ) (some (.int yes)) (q_setA (a_rec J o σ) (o + 1) σ2)) : l_P YC YM args d o Sh I := by
  have hu : u ≤ 6 := hC.2.1.2.elim fun n q => q.2.2.1
  by_cases h0 : ref = 0
  · refine l_P_of (v := yes) (σ2 := σ2) (u2 := a_recN u) (H2 := a_push u H σ) (P2 := P) (len2 := len) (Q2 := Q) hd hdC hdM hM (q_rp_mono kC fun w J q => ?_) (fun J hJ _ => ?_)
    · obtain ⟨v, rfl, q, hf⟩ := q
      obtain ⟨-, rfl, hD⟩ := q.resolve_left (fun z => z.1 h0)
      obtain ⟨g1, g2⟩ := hC.ch hd hD hf
      exact ⟨rfl, g1, g2⟩
    · have k := ky h0 J hJ.2.1.1 hJ.2.1.2.1
      rw [l_self hJ.1] at k
      obtain ⟨g1, g2⟩ := hJ.rec hu (σ2 := σ2)
      exact q_rp_mono (q_rt_rp k) fun w J2 q => by obtain ⟨rfl, rfl⟩ := q; exact ⟨rfl, g1, g2⟩
  · refine l_P_of (v := ref) (σ2 := σ) (u2 := u) (H2 := H) (P2 := P) (len2 := len) (Q2 := Q) hd hdC hdM hM (q_rp_mono kC fun w J q => ?_) (fun J hJ _ => ?_)
    · obtain ⟨v, rfl, q, hf⟩ := q
      obtain ⟨-, rfl, hD⟩ := q.resolve_right (fun z => h0 z.1)
      obtain ⟨g1, g2⟩ := hC.ch hd hD hf
      exact ⟨rfl, g1, g2⟩
    · have k := kn h0 J hJ.2.1.1
      rw [l_self hJ.1] at k
      exact q_rp_mono (q_rt_rp k) fun w J2 q => by obtain ⟨rfl, rfl⟩ := q; exact ⟨rfl, hJ, fun _ _ => rfl⟩
/-- nothing changes but what is aside -/
theorem l_P_no (hd : d + 429 ≤ o) (hdC : dC ≤ 9) (hdM : dM ≤ 9) (hC : l_C d o Sh I σ u H P len Q) (hM : l_M o I σ u H P len Q)
    (kC : q_Rp YC dC (.ref d :: args) Sh I (fun w J => w = some (.int v) ∧ Ds d J σ u H ∧ FrD d I J))
    (kM : ∀ J : q_Mem, l_M o J σ u H P len Q → q_Rp YM dM (.ref o :: args) Sh (q_setA J (o + 1) σ) (fun w J2 => w = some (.int v) ∧ ∀ l, l ≠ o + 2 → J2 l = q_setA J (o + 1) σ l)) : l_P YC YM args d o Sh I := by
  refine l_P_of (v := v) (σ2 := σ) (u2 := u) (H2 := H) (P2 := P) (len2 := len) (Q2 := Q) hd hdC hdM hM (q_rp_mono kC fun w J q => ?_) (fun J hJ _ => ?_)
  · obtain ⟨rfl, hD, hf⟩ := q
    obtain ⟨g1, g2⟩ := hC.ch hd hD hf
    exact ⟨rfl, g1, g2⟩
  · have k := kM J hJ
    rw [l_self hJ.1] at k
    exact q_rp_mono k fun w J2 q => ⟨q.1, hJ.fr2 (fun l _ _ a _ => q.2 l a), fun l hl => q.2 l (by omega)⟩
theorem l_rt (h : q_Rt YM dM args Sh I (some (.int v)) I) : q_Rp YM dM args Sh I (fun w J2 => w = some (.int v) ∧ ∀ l, l ≠ o + 2 → J2 l = I l) := q_rp_mono (q_rt_rp h) fun w J q => by obtain ⟨rfl, rfl⟩ := q; exact ⟨rfl, fun _ _ => rfl⟩
theorem l_rtA {J : q_Mem} (h : q_Rt YM dM args Sh (q_setA J (o + 1) σ) (some (.int v)) (q_setA (q_setA J (o + 2) σ) (o + 1) σ)) : q_Rp YM dM args Sh (q_setA J (o + 1) σ) (fun w J2 => w = some (.int v) ∧ ∀ l, l ≠ o + 2 → J2 l = q_setA J (o + 1) σ l) := q_rp_mono (q_rt_rp h) fun w J2 q => by
  obtain ⟨rfl, rfl⟩ := q
  refine ⟨rfl, fun l hl => ?_⟩
  by_cases z : l = o + 1
  · subst z; rw [q_setA_at, q_setA_at]
  · rw [q_setA_ne z, q_setA_ne z, q_setA_ne hl]
theorem l_rd (hD : Ds d I σ u H) (h : q_Rt YC dC args Sh I (some (.int v)) I) : q_Rp YC dC args Sh I (fun w J => w = some (.int v) ∧ Ds d J σ u H ∧ FrD d I J) := q_rp_mono (q_rt_rp h) fun w J q => by obtain ⟨rfl, rfl⟩ := q; exact ⟨rfl, hD, fun _ _ => rfl⟩
theorem l_rdA (hD : Ds d I σ u H) (h : q_Rp YC dC args Sh I (fun w J => w = some (.int v) ∧ Fr (d + 48) I J)) : q_Rp YC dC args Sh I (fun w J => w = some (.int v) ∧ Ds d J σ u H ∧ FrD d I J) := q_rp_mono h fun w J q => ⟨q.1, hD.far q.2, fun l hl => q.2 l (by omega)⟩
end PAIRS
theorem l_r7 {p : Int32} {n : Nat} : (0 ≤ p ∧ p ≤ nI n) ↔ (nI 0 ≤ p ∧ p ≤ nI n) := by rw [nI_0]
theorem l_rT {p : Int32} {n : Nat} : (0 ≤ p ∧ p < nI n) ↔ (nI 0 ≤ p ∧ p < nI n) := by rw [nI_0]
theorem l_num {t : Int32} {n : Nat} (hn : n < 2 ^ 31) (h : 0 ≤ t ∧ t < nI n) : ∃ j, j < n ∧ t = nI j := by
  obtain ⟨j, hj, rfl⟩ := nI_of (Int32.not_lt.mpr h.1)
  exact ⟨j, (nI_ltI hj hn).mp h.2, rfl⟩
section THEPAIRS
variable {d o : Nat} {Sh : q_Sh} {I : q_Mem}
theorem l_thing (h : l_I d o Sh I) {k m p t : Int32} : l_P mX6_thing mX7_thing [.int k, .int m, .int p, .int t] d o Sh I := by
  obtain ⟨hd, σ, u, H, P, len, Q, hC, hM⟩ := h
  have hu : u ≤ 6 := hC.2.1.2.elim fun n q => q.2.2.1
  have hW := hC.2.1.1.2.2
  exact l_P_ch hd (by decide) (by decide) hC hM (s_X6_thing hC.1.1 hC.2.1) (fun hr J h0 => s_thing_no hC.1.2.1 hW h0 hr) (fun hr J h0 h4 => s_thing_yes hC.1.2.1 hW h0 hu h4 hr)
theorem l_fixer (h : l_I d o Sh I) {k c : Int32} : l_P mX6_fixer mX7_fixer [.int k, .int c] d o Sh I := by
  obtain ⟨hd, σ, u, H, P, len, Q, hC, hM⟩ := h
  have hu : u ≤ 6 := hC.2.1.2.elim fun n q => q.2.2.1
  have hW := hC.2.1.1.2.2
  exact l_P_ch hd (by decide) (by decide) hC hM (s_X6_fixer hC.1.1 hC.2.1) (fun hr J h0 => s_fixer_no hC.1.2.1 hW h0 hr) (fun hr J h0 h4 => s_fixer_yes hC.1.2.1 hW h0 hu h4 hr)
theorem l_drawer (h : l_I d o Sh I) {p m : Int32} : l_P mX6_drawer mX7_drawer [.int p, .int m] d o Sh I := by
  obtain ⟨hd, σ, u, H, P, len, Q, hC, hM⟩ := h
  have hu : u ≤ 6 := hC.2.1.2.elim fun n q => q.2.2.1
  have hW := hC.2.1.1.2.2
  by_cases hp : 0 ≤ p ∧ p ≤ nI 7
  · obtain ⟨j, hj, rfl⟩ := a_in06 rfl rfl (by decide) (l_r7.mp hp)
    exact l_P_ch hd (by decide) (by decide) hC hM (s_X6_drawer hC.1.1 hC.2.1 (by omega)) (fun hr J h0 => s_drawer_no hC.1.2.1 hW h0 hr) (fun hr J h0 h4 => s_drawer_yes hC.1.2.1 hW h0 hu h4 (by omega) hr)
  · have e : a_refD p m = -1 := if_pos (fun z => hp (l_r7.mpr z))
    refine l_P_no (dM := 2) hd (by decide) (by decide) hC hM (s_X6_drawer_no hC.1.1 hC.2.1 hp) (fun J hJ => l_rt ?_)
    rw [← e]
    exact s_drawer_no hC.1.2.1 hW hJ.2.1.1 (by rw [e]; decide)
theorem l_giveUp (h : l_I d o Sh I) {t : Int32} : l_P mX6_giveUp mX7_giveUp [.int t] d o Sh I := by
  obtain ⟨hd, σ, u, H, P, len, Q, hC, hM⟩ := h
  have hu : u ≤ 6 := hC.2.1.2.elim fun n q => q.2.2.1
  have hW := hC.2.1.1.2.2
  have hT := hW.1.2
  by_cases hp : 0 ≤ t ∧ t < nI (a_T σ)
  · obtain ⟨j, hj, rfl⟩ := l_num (by omega) hp
    have ej : a_n (nI j) = j := nI_clamp (by omega)
    have e0 : ¬ ¬ (nI 0 ≤ nI j ∧ nI j < σ 1) := fun z => z (by rw [hW.1.1]; exact l_rT.mp hp)
    have e : a_refG σ (nI j) = if σ (57 + 7 * j + 4) = 0 then 0 else -5 := by unfold a_refG; rw [if_neg e0, ej]
    refine l_P_ch (dM := 2) hd (by decide) (by decide) hC hM (s_X6_giveUp hC.1.1 hC.2.1 hj) (fun hr J h0 => ?_) (fun hr J h0 h4 => ?_)
    · by_cases z : σ (57 + 7 * j + 4) = 0
      · rw [e, if_pos z] at hr; exact absurd rfl hr
      · rw [e, if_neg z]
        exact s_giveUp_no2 hC.1.2.1 hW h0 hj z
    · refine s_giveUp_yes hC.1.2.1 hW h0 hu h4 hj ?_
      refine Classical.byContradiction fun z => ?_
      rw [e, if_neg z] at hr
      exact absurd hr (by decide)
  · exact l_P_no hd (by decide) (by decide) hC hM (s_X6_giveUp_no hC.1.1 hC.2.1 hp) (fun J hJ => l_rt (s_giveUp_no1 hC.1.2.1 hW hJ.2.1.1 (fun z => hp (l_rT.mpr z))))
theorem l_pass (h : l_I d o Sh I) {m : Int32} : l_P mX6_pass mX7_pass [.int m] d o Sh I := by
  obtain ⟨hd, σ, u, H, P, len, Q, hC, hM⟩ := h
  have hu : u ≤ 6 := hC.2.1.2.elim fun n q => q.2.2.1
  have hW := hC.2.1.1.2.2
  refine l_P_ch hd (by decide) (by decide) hC hM (s_X6_pass hC.1.1 hC.2.1) (fun hr J h0 => s_pass_no hC.1.2.1 hW h0 hr) (fun hr J h0 h4 => ?_)
  obtain ⟨j, h1, h2, rfl⟩ := a_refP_0 hr
  rw [show a_n (nI j) = j from nI_clamp (by omega)]
  exact s_pass_yes hC.1.2.1 hW h0 hu h4 (by omega) hr
theorem l_ofThing (h : l_I d o Sh I) {t w : Int32} : l_P mX6_ofThing mX7_ofThing [.int t, .int w] d o Sh I := by
  obtain ⟨hd, σ, u, H, P, len, Q, hC, hM⟩ := h
  have hW := hC.2.1.1.2.2
  have hT := hW.1.2
  by_cases hp : 0 ≤ t ∧ t < nI (a_T σ)
  · obtain ⟨j, hj, rfl⟩ := l_num (by omega) hp
    exact l_P_no hd (by decide) (by decide) hC hM (l_rd hC.2.1 (s_X6_ofThing_yes hC.1.1 hC.2.1 hj)) (fun J hJ => l_rt (s_ofThing_yes hC.1.2.1 hW hJ.2.1.1 hj))
  · exact l_P_no hd (by decide) (by decide) hC hM (l_rd hC.2.1 (s_X6_ofThing_no hC.1.1 hC.2.1 hp)) (fun J hJ => l_rt (s_ofThing_no hC.1.2.1 hW hJ.2.1.1 (fun z => hp (l_rT.mpr z))))
theorem l_ofFixer (h : l_I d o Sh I) {t w : Int32} : l_P mX6_ofFixer mX7_ofFixer [.int t, .int w] d o Sh I := by
  obtain ⟨hd, σ, u, H, P, len, Q, hC, hM⟩ := h
  have hW := hC.2.1.1.2.2
  have hF := hW.2.1.2
  by_cases hp : 0 ≤ t ∧ t < nI (a_F σ)
  · obtain ⟨j, hj, rfl⟩ := l_num (by omega) hp
    exact l_P_no hd (by decide) (by decide) hC hM (l_rd hC.2.1 (s_X6_ofFixer_yes hC.1.1 hC.2.1 hj)) (fun J hJ => l_rt (s_ofFixer_yes hC.1.2.1 hW hJ.2.1.1 hj))
  · exact l_P_no hd (by decide) (by decide) hC hM (l_rd hC.2.1 (s_X6_ofFixer_no hC.1.1 hC.2.1 hp)) (fun J hJ => l_rt (s_ofFixer_no hC.1.2.1 hW hJ.2.1.1 (fun z => hp (l_rT.mpr z))))
theorem l_ofPart (h : l_I d o Sh I) {p w : Int32} : l_P mX6_ofPart mX7_ofPart [.int p, .int w] d o Sh I := by
  obtain ⟨hd, σ, u, H, P, len, Q, hC, hM⟩ := h
  have hW := hC.2.1.1.2.2
  by_cases hp : 0 ≤ p ∧ p ≤ nI 7
  · obtain ⟨j, hj, rfl⟩ := a_in06 rfl rfl (by decide) (l_r7.mp hp)
    exact l_P_no hd (by decide) (by decide) hC hM (l_rd hC.2.1 (s_X6_ofPart_yes hC.1.1 hC.2.1 (by omega))) (fun J hJ => l_rt (s_ofPart_yes hC.1.2.1 hW hJ.2.1.1 (by omega)))
  · exact l_P_no hd (by decide) (by decide) hC hM (l_rd hC.2.1 (s_X6_ofPart_no hC.1.1 hC.2.1 hp)) (fun J hJ => l_rt (s_ofPart_no hC.1.2.1 hW hJ.2.1.1 (fun z => hp (l_r7.mpr z))))
theorem l_count (h : l_I d o Sh I) {w : Int32} : l_P mX6_count mX7_count [.int w] d o Sh I := by
  obtain ⟨hd, σ, u, H, P, len, Q, hC, hM⟩ := h
  have hW := hC.2.1.1.2.2
  refine l_P_no (dM := 2) hd (by decide) (by decide) hC hM (l_rd hC.2.1 (s_X6_count (ob := I o) hC.1.1 hC.2.1 (hC.2.2.1.2.1.trans hM.2.1.2.2.symm) hM.2.1.2.1)) (fun J hJ => l_rt ?_)
  have e : a_count (I o) σ w = a_count (J o) σ w := by unfold a_count; rw [hM.2.1.2.1, hM.2.1.2.2, hJ.2.1.2.1, hJ.2.1.2.2]
  rw [e]
  exact s_count hC.1.2.1 hW hJ.2.1.1
theorem l_scarcest (h : l_I d o Sh I) : l_P mX6_scarcest mX7_scarcest [] d o Sh I := by
  obtain ⟨hd, σ, u, H, P, len, Q, hC, hM⟩ := h
  have hW := hC.2.1.1.2.2
  exact l_P_no hd (by decide) (by decide) hC hM (l_rd hC.2.1 (s_X6_scarcest hC.1.1 hC.2.1)) (fun J hJ => l_rt (s_scarcest hC.1.2.1 hW hJ.2.1.1))
theorem l_doneIn (h : l_I d o Sh I) {t : Int32} : l_P mX6_doneIn mX7_doneIn [.int t] d o Sh I := by
  obtain ⟨hd, σ, u, H, P, len, Q, hC, hM⟩ := h
  have hW := hC.2.1.1.2.2
  have hT := hW.1.2
  by_cases hp : 0 ≤ t ∧ t < nI (a_T σ)
  · obtain ⟨j, hj, rfl⟩ := l_num (by omega) hp
    exact l_P_no hd (by decide) (by decide) hC hM (l_rdA hC.2.1 (s_X6_doneIn_yes hC.1.1 hC.2.1 hj)) (fun J hJ => l_rtA (s_doneIn_yes hC.1.2.1 hW hJ.2.1.1 hj))
  · have e : a_doneIn σ t = -1 := if_pos (by rw [hW.1.1]; exact fun z => hp (l_rT.mpr z))
    refine l_P_no (dM := 5) hd (by decide) (by decide) hC hM (l_rdA hC.2.1 (s_X6_doneIn_no hC.1.1 hC.2.1 hp)) (fun J hJ => l_rt ?_)
    rw [← e]
    exact s_doneIn_no hC.1.2.1 hW hJ.2.1.1 (fun z => hp (l_rT.mpr z))
theorem l_withFixer (h : l_I d o Sh I) {k c m : Int32} : l_P mX6_withFixer mX7_withFixer [.int k, .int c, .int m] d o Sh I := by
  obtain ⟨hd, σ, u, H, P, len, Q, hC, hM⟩ := h
  have hW := hC.2.1.1.2.2
  by_cases hr : ¬ a_refF σ k c = 0 ∨ ¬ (nI 1 ≤ m ∧ m ≤ nI 300)
  · exact l_P_no hd (by decide) (by decide) hC hM (l_rdA hC.2.1 (s_X6_withFixer hC.1.1 hC.2.1)) (fun J hJ => l_rt (s_withFixer_no hC.1.2.1 hW hJ.2.1.1 hr))
  · have h1 : a_refF σ k c = 0 := Classical.byContradiction fun z => hr (Or.inl z)
    have h2 : nI 1 ≤ m ∧ m ≤ nI 300 := Classical.byContradiction fun z => hr (Or.inr z)
    obtain ⟨j, hj, rfl⟩ := a_in06 (k := m) (a := nI 0) (b := nI 300) rfl rfl (by decide) ⟨Int32.le_trans (by decide) h2.1, h2.2⟩
    exact l_P_no hd (by decide) (by decide) hC hM (l_rdA hC.2.1 (s_X6_withFixer hC.1.1 hC.2.1)) (fun J hJ => l_rtA (s_withFixer_yes hC.1.2.1 hW hJ.2.1.1 h1 h2 (by omega)))
theorem l_bestCare (h : l_I d o Sh I) {m : Int32} : l_P mX6_bestCare mX7_bestCare [.int m] d o Sh I := by
  obtain ⟨hd, σ, u, H, P, len, Q, hC, hM⟩ := h
  have hW := hC.2.1.1.2.2
  by_cases h2 : nI 1 ≤ m ∧ m ≤ nI 300
  · by_cases h5 : σ 2 = nI 5
    · exact l_P_no hd (by decide) (by decide) hC hM (l_rdA hC.2.1 (s_X6_bestCare hC.1.1 hC.2.1)) (fun J hJ => l_rt (s_bestCare_no2 hC.1.2.1 hW hJ.2.1.1 h2 h5))
    · obtain ⟨j, hj, rfl⟩ := a_in06 (k := m) (a := nI 0) (b := nI 300) rfl rfl (by decide) ⟨Int32.le_trans (by decide) h2.1, h2.2⟩
      exact l_P_no hd (by decide) (by decide) hC hM (l_rdA hC.2.1 (s_X6_bestCare hC.1.1 hC.2.1)) (fun J hJ => l_rtA (s_bestCare_yes hC.1.2.1 hW hJ.2.1.1 h2 (by omega) h5))
  · exact l_P_no hd (by decide) (by decide) hC hM (l_rdA hC.2.1 (s_X6_bestCare hC.1.1 hC.2.1)) (fun J hJ => l_rt (s_bestCare_no1 hC.1.2.1 hW hJ.2.1.1 h2))
end THEPAIRS
