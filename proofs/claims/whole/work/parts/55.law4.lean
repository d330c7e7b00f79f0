theorem cHi {Sh : q_Sh} {b : Nat} (h : cOk Sh b) : b + 47 ≤ Sh.1 := by have := (h.2.2.2.2.2.2 7 (by decide)).2.1; omega
theorem mHi {Sh : q_Sh} {o : Nat} (h : mOk Sh o) : o + 8 ≤ Sh.1 := by have := h.2.2.2.2.2.2.2.2.1; omega
def l_Q2 (Q : Nat → Option a_A) (k : Nat) (σ : a_A) : Nat → Option a_A := fun j => if j = k then some σ else Q j
section SLOTS
variable {d o u len k : Nat} {Sh : q_Sh} {I J : q_Mem} {σ P : a_A} {H : Nat → a_A} {Q : Nat → Option a_A}
theorem l_C.old {b : Nat} (hd : d + 429 ≤ o) (h : l_C d o Sh I σ u H P len Q) (hk : k < 2) (hs : Sh.2.2 (d + 426) k = some b) (hcb : cOk Sh b) (hb : o + 8 ≤ b) (hR : Rs b J σ) (hF : Fr b I J) : l_C d o Sh J σ u H P len (l_Q2 Q k σ) ∧ F_M o I J := by
  obtain ⟨h1, h2, h3, h4, h5⟩ := h
  refine ⟨⟨h1, h2.loc (fun l a c => hF l (by omega)), h3.loc (hF _ (by omega)) (hF _ (by omega)), fun c hc => ?_, h5⟩, fun l a c => hF l (by omega)⟩
  by_cases q : c = k
  · subst q
    exact Or.inr ⟨b, σ, hs, if_pos rfl, hcb, hb, hR⟩
  · rcases h4 c hc with ⟨q1, q2⟩ | ⟨b', τ, q1, q2, q3, q4, q5⟩
    · exact Or.inl ⟨q1, (if_neg q).trans q2⟩
    · refine Or.inr ⟨b', τ, q1, (if_neg q).trans q2, q3, q4, q5.far hF ?_⟩
      rcases (by omega : (c = 0 ∧ k = 1) ∨ (c = 1 ∧ k = 0)) with ⟨rfl, rfl⟩ | ⟨rfl, rfl⟩
      · exact h5 b' b q1 hs
      · exact (h5 b b' hs q1).symm
theorem l_C.new {S : q_Sh} (hd : d + 429 ≤ o) (h : l_C d o Sh I σ u H P len Q) (hk : k < 2) (hg : q_gr Sh.1 Sh S) (hCf : m_Cf Sh.1 47 S) (hR : Rs Sh.1 J σ) (hJ : ∀ l, l < Sh.1 → J l = I l) : l_C d o (m_R S (d + 426) k Sh.1) J σ u H P len (l_Q2 Q k σ) ∧ F_M o I J := by
  obtain ⟨⟨c1, c2, c3⟩, h2, h3, h4, h5⟩ := h
  have e1 := dHi c1
  have e2 := mHi c2
  have e3 := hCf.1
  have g : q_gx Sh.1 (d + 426) Sh (m_R S (d + 426) k Sh.1) := (hg.x (x := d + 426)).tr (m_R_gx.le hg.1.2)
  have hn : ∀ c, c ≠ k → (m_R S (d + 426) k Sh.1).2.2 (d + 426) c = Sh.2.2 (d + 426) c := fun c q => (m_R_ne (fun z => q z.2)).trans (hg.rf2 (by omega) rfl)
  refine ⟨⟨⟨c1.gx g e1, c2.gx g e2 (by omega), m_R_cl hCf.2.1 (by omega)⟩, h2.loc (fun l a c => hJ l (by omega)), h3.loc (hJ _ (by omega)) (hJ _ (by omega)), fun c hc => ?_, fun a b ha hb => ?_⟩, fun l a c => hJ l (by omega)⟩
  · by_cases q : c = k
    · subst q
      exact Or.inr ⟨Sh.1, σ, m_R_at, if_pos rfl, hCf.ok.gx m_R_gx (by omega) (by omega), e2, hR⟩
    · rw [hn c q]
      rcases h4 c hc with ⟨q1, q2⟩ | ⟨b', τ, q1, q2, q3, q4, q5⟩
      · exact Or.inl ⟨q1, (if_neg q).trans q2⟩
      · have e4 := cHi q3
        exact Or.inr ⟨b', τ, q1, (if_neg q).trans q2, q3.gx g e4 (by omega), q4, q5.loc (fun l a c => hJ l (by omega))⟩
  · have hx : ∀ c b', c ≠ k → c < 2 → (m_R S (d + 426) k Sh.1).2.2 (d + 426) c = some b' → b' + 47 ≤ Sh.1 := by
      intro c b' q hc z
      rw [hn c q] at z
      rcases h4 c hc with ⟨q1, q2⟩ | ⟨b2, τ, q1, q2, q3, q4, q5⟩
      · rw [q1] at z; cases z
      · rw [q1] at z; cases z; exact cHi q3
    rcases (by omega : k = 0 ∨ k = 1) with rfl | rfl
    · rw [m_R_at] at ha
      cases ha
      exact Or.inr (hx 1 b (by decide) (by decide) hb)
    · rw [m_R_at] at hb
      cases hb
      exact Or.inl (hx 0 a (by decide) (by decide) ha)
theorem l_M.sv (h : l_M o I σ u H P len Q) (hk : k < 2) : l_M o (q_setA (q_setA (q_setA I (o + 4) (a_recS (I (o + 4)) σ k)) (o + 5) (upd (I (o + 5)) k 1)) (o + 1) σ) σ u H P len (l_Q2 Q k σ) ∧ F_C o I (q_setA (q_setA (q_setA I (o + 4) (a_recS (I (o + 4)) σ k)) (o + 5) (upd (I (o + 5)) k 1)) (o + 1) σ) := by
  obtain ⟨h1, h2, h5, h6, h7⟩ := h
  have n4 : q_setA (q_setA (q_setA I (o + 4) (a_recS (I (o + 4)) σ k)) (o + 5) (upd (I (o + 5)) k 1)) (o + 1) σ (o + 4) = a_recS (I (o + 4)) σ k := by rw [q_setA_ne (by omega), q_setA_ne (by omega), q_setA_at]
  have n5 : q_setA (q_setA (q_setA I (o + 4) (a_recS (I (o + 4)) σ k)) (o + 5) (upd (I (o + 5)) k 1)) (o + 1) σ (o + 5) = upd (I (o + 5)) k 1 := by rw [q_setA_ne (by omega), q_setA_at]
  have nn : ∀ l, l ≠ o + 1 → l ≠ o + 4 → l ≠ o + 5 → q_setA (q_setA (q_setA I (o + 4) (a_recS (I (o + 4)) σ k)) (o + 5) (upd (I (o + 5)) k 1)) (o + 1) σ l = I l := fun l a b c => by rw [q_setA_ne a, q_setA_ne c, q_setA_ne b]
  refine ⟨?_, fun l hl => nn l (by omega) (by omega) (by omega)⟩
  unfold l_M
  rw [n4, n5, nn o (by omega) (by omega) (by omega), nn (o + 3) (by omega) (by omega) (by omega), nn (o + 6) (by omega) (by omega) (by omega), q_setA_at]
  refine ⟨rfl, h2, h5, h6, fun c hc => ?_⟩
  by_cases q : c = k
  · subst q
    refine Or.inr ⟨σ, if_pos rfl, by rw [q_upd_at]; decide, fun j hj => ?_⟩
    unfold a_recS
    rw [if_pos (by omega)]
    exact congrArg σ (by omega)
  · rcases h7 c hc with ⟨q1, q2⟩ | ⟨τ, q1, q2, q3⟩
    · exact Or.inl ⟨(if_neg q).trans q1, by rw [q_upd_ne q]; exact q2⟩
    · refine Or.inr ⟨τ, (if_neg q).trans q1, by rw [q_upd_ne q]; exact q2, fun j hj => ?_⟩
      unfold a_recS
      rw [if_neg (by omega)]
      exact q3 j hj
end SLOTS
section THEPAIRS3
variable {d o : Nat} {Sh : q_Sh} {I : q_Mem}
theorem l_save (h : l_I d o Sh I) {c : Int32} : l_P mX6_save mX7_save [.int c] d o Sh I := by
  obtain ⟨hd, σ, u, H, P, len, Q, hC, hM⟩ := h
  have hW := hC.2.1.1.2.2
  by_cases hp : 0 ≤ c ∧ c ≤ nI 1
  · obtain ⟨k, hk, rfl⟩ := a_in06 rfl rfl (by decide) (l_r7.mp hp)
    have kM : ∀ S J, mOk S o → l_M o J σ u H P len Q → F_M o I J → q_Rp mX7_save 1 [.ref o, .int (nI k)] S J (fun w J2 => w = some (.int (nI (a_T σ))) ∧ l_M o J2 σ u H P len (l_Q2 Q k σ) ∧ F_C o J J2) := by
      intro S J hm hJ _
      have q := s_save_yes hm hW hJ.2.1.1 (c := k) (by omega)
      rw [l_self hJ.1] at q
      refine q_rp_mono (q_rt_rp q) fun w J2 q => ?_
      obtain ⟨rfl, rfl⟩ := q
      exact ⟨rfl, hJ.sv (by omega)⟩
    rcases hC.2.2.2.1 k (by omega) with ⟨hs, -⟩ | ⟨b, τ, hs, -, hcb, hb, -⟩
    · refine l_P_of2 hd (by decide) (by decide) (by decide) (by decide) hM (q_call_mono (s_X6_save_new hC.1.1 hC.2.1 (by omega) hs hC.1.2.2) fun w S2 J q => ?_) kM
      obtain ⟨rfl, ⟨S, rfl, q1, q2⟩, q3, q4⟩ := q
      obtain ⟨g1, g2⟩ := hC.new (k := k) hd (by omega) q1 q2 q3 q4
      exact ⟨rfl, g1, g2⟩
    · refine l_P_of2 (mc := 0) (ms := 0) hd (by decide) (by decide) (by decide) (by decide) hM (q_call_mono (s_X6_save_old hC.1.1 hC.2.1 (by omega) hs hcb (by omega)) fun w S2 J q => ?_) kM
      obtain ⟨rfl, rfl, q1, q2⟩ := q
      obtain ⟨g1, g2⟩ := hC.old hd (by omega) hs hcb hb q1 q2
      exact ⟨rfl, g1, g2⟩
  · exact l_P_no hd (by decide) (by decide) hC hM (l_rd hC.2.1 (s_X6_save_no hC.1.1 hp)) (fun J hJ => l_rt (s_save_no hC.1.2.1 hW hJ.2.1.1 (fun z => hp (l_r7.mpr z))))
theorem l_restore (h : l_I d o Sh I) {c : Int32} : l_P mX6_restore mX7_restore [.int c] d o Sh I := by
  obtain ⟨hd, σ, u, H, P, len, Q, hC, hM⟩ := h
  have hW := hC.2.1.1.2.2
  have hu : u ≤ 6 := hC.2.1.2.elim fun n q => q.2.2.1
  by_cases hp : 0 ≤ c ∧ c ≤ nI 1
  · obtain ⟨k, hk, rfl⟩ := a_in06 rfl rfl (by decide) (l_r7.mp hp)
    rcases hC.2.2.2.1 k (by omega) with ⟨hs, hq⟩ | ⟨b, τ, hs, hq, hcb, hb, hRb⟩
    · refine l_P_no (dM := 1) hd (by decide) (by decide) hC hM (l_rd hC.2.1 (s_X6_restore_none hC.1.1 (by omega) hs)) (fun J hJ => l_rt (s_restore_no2 hC.1.2.1 hW hJ.2.1.1 (by omega) ?_))
      rcases hJ.2.2.2.2 k (by omega) with ⟨-, z⟩ | ⟨τ, z, -⟩
      · exact z
      · rw [hq] at z; cases z
    · have hMk := hM.2.2.2.2 k (by omega)
      rw [hq] at hMk
      obtain ⟨τ', e1, e2, e3⟩ := hMk.resolve_left (fun z => by cases z.1)
      cases e1
      have hRb2 : Rs b I (fun j => I (o + 4) (267 * k + j)) := hRb.cong (fun j hj => e3 j hj)
      refine l_P_of (dM := 1) (v := nI (a_T (fun j => I (o + 4) (267 * k + j)))) (σ2 := fun j => I (o + 4) (267 * k + j)) (u2 := a_recN u) (H2 := a_push u H σ) (P2 := P) (len2 := len) (Q2 := Q) hd (by decide) (by decide) hM (q_rp_mono (s_X6_restore_yes hC.1.1 hC.2.1 (by omega) hs hcb (by omega) hRb2) fun w J q => ?_) (fun J hJ hF => ?_)
      · obtain ⟨rfl, q0, q1⟩ := q
        obtain ⟨g1, g2⟩ := hC.ch hd q0 q1
        exact ⟨rfl, g1, g2⟩
      · have q := s_restore_yes (σ := σ) (c := k) hC.1.2.1 hW hJ.2.1.1 hu hJ.2.1.2.1 (by omega) (by rw [hF (o + 5) (by omega) (by omega)]; exact e2)
        rw [l_self hJ.1, hF (o + 4) (by omega) (by omega)] at q
        refine q_rp_mono (q_rt_rp q) fun w J2 q => ?_
        obtain ⟨rfl, rfl⟩ := q
        obtain ⟨k1, k2⟩ := hJ.rec hu (σ2 := fun j => I (o + 4) (267 * k + j))
        exact ⟨congrArg (fun x => some (Value.int x)) hRb2.2.2.1.1, k1, k2⟩
  · exact l_P_no hd (by decide) (by decide) hC hM (l_rd hC.2.1 (s_X6_restore_no hC.1.1 hp)) (fun J hJ => l_rt (s_restore_no1 hC.1.2.1 hW hJ.2.1.1 (fun z => hp (l_r7.mpr z))))
end THEPAIRS3
