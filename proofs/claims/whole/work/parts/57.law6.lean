def l_LF (b d o i : Nat) : l_Lf := fun ad => [(3, .int (nI i)), (2, .ref (ad o)), (1, .ref (ad d)), (0, .ref b)]
theorem l_LF0 {b d o i : Nat} {ad : Nat → Nat} : (0, Value.ref b) ∈ l_LF b d o i ad := List.mem_of_getElem? (i := 3) rfl
theorem l_LF1 {b d o i : Nat} {ad : Nat → Nat} : (1, Value.ref (ad d)) ∈ l_LF b d o i ad := List.mem_of_getElem? (i := 2) rfl
theorem l_LF2 {b d o i : Nat} {ad : Nat → Nat} : (2, Value.ref (ad o)) ∈ l_LF b d o i ad := List.mem_of_getElem? (i := 1) rfl
theorem l_LF3 {b d o i : Nat} {ad : Nat → Nat} : (3, Value.int (nI i)) ∈ l_LF b d o i ad := List.mem_of_getElem? (i := 0) rfl
theorem l_LFok {b d o i n : Nat} (hd : d < n) (ho : o < n) : l_ok (l_LF b d o i) n := fun ad ad' h => by unfold l_LF; rw [h d hd, h o ho]
theorem l_old0 {n : Nat} : ∀ v ∈ ([] : List Value), q_old n v := fun v hv => by cases hv
theorem l_old1 {n : Nat} {x : Int32} : ∀ v ∈ [Value.int x], q_old n v := fun v hv y e => by
  rcases List.mem_cons.mp hv with rfl | hv
  · cases e
  · cases hv
theorem l_I.is6 {d o : Nat} {Sh : q_Sh} {I : q_Mem} (h : l_I d o Sh I) : q_is Sh d 6 := by
  obtain ⟨hd, σ, u, H, P, len, Q, hC, hM⟩ := h
  exact hC.1.1.1
theorem l_I.is7 {d o : Nat} {Sh : q_Sh} {I : q_Mem} (h : l_I d o Sh I) : q_is Sh o 7 := by
  obtain ⟨hd, σ, u, H, P, len, Q, hC, hM⟩ := h
  exact hC.1.2.1.1
theorem a_and31 (x : Int32) : ∃ j, j < 32 ∧ x &&& nI 31 = nI j := by
  refine ⟨x.toBitVec.toNat % 32, Nat.mod_lt _ (by decide), ?_⟩
  apply Int32.toBitVec_inj.mp
  rw [Int32.toBitVec_and]
  apply BitVec.eq_of_toNat_eq
  rw [BitVec.toNat_and]
  have h1 : (nI 31).toBitVec.toNat = 2 ^ 5 - 1 := by decide
  rw [h1, Nat.and_two_pow_sub_one_eq_mod]
  show _ = (BitVec.ofNat 32 (x.toBitVec.toNat % 32)).toNat
  rw [BitVec.toNat_ofNat]
  have := Nat.mod_lt x.toBitVec.toNat (show 0 < 32 by decide)
  omega
section BRANCHES
variable {Γ : q_Cx} {nm : String} {rc rs : Nat} {Sh : q_Sh} {I : q_Mem} {b L d o i : Nat} {xs : Nat → Int32}
set_option maxRecDepth 100000 in
set_option maxHeartbeats 4000000 in
theorem l_b_thing (B : q_Ok Γ (l_Y nm) 10) (hX : va_X b L xs (q_s Γ) (q_s Γ).heap ∧ b < (q_s Γ).heap.size ∧ ¬ q_A Γ b ∧ L < 2 ^ 31) (hlt : i + 5 ≤ L) (hI : l_I d o Sh I) (hk : ∀ S J, l_I d o S J → l_W Γ rc rs S J 668 (l_LF b d o i) []) : l_W Γ (rc + 47) (rs + 343) Sh I 128 (l_LF b d o i) [] := by
  refine l_ref (x := d) B dL_law_128 rfl (fun ad => l_LF1) ?_
  refine l_arg (kx := 1) B hX (fun ad => l_LF0) (fun ad => l_LF3) dL_law_129 dL_law_130 dL_law_131 dL_law_132 dL_law_133 rfl (by omega) ?_
  refine l_arg (kx := 2) B hX (fun ad => l_LF0) (fun ad => l_LF3) dL_law_134 dL_law_135 dL_law_136 dL_law_137 dL_law_138 rfl (by omega) ?_
  refine l_arg (kx := 3) B hX (fun ad => l_LF0) (fun ad => l_LF3) dL_law_139 dL_law_140 dL_law_141 dL_law_142 dL_law_143 rfl (by omega) ?_
  refine l_arg (kx := 4) B hX (fun ad => l_LF0) (fun ad => l_LF3) dL_law_144 dL_law_145 dL_law_146 dL_law_147 dL_law_148 rfl (by omega) ?_
  obtain ⟨dC, dM, mc, ms, v, Mid, ⟨g1, g2, g3, g4⟩, kC, kM⟩ := l_thing hI (k := xs (i + 1)) (m := xs (i + 2)) (p := xs (i + 3)) (t := xs (i + 4))
  refine l_less (rc' := rc + mc) (rs' := rs + ms) (by omega) (by omega) ?_
  refine l_callV (rc := rc) (rs := rs) B kC kv_yX6_thing ki_yX6_thing ks_yX6_thing km_L_13 rfl (ci := 6) rfl rfl hI.is6 (by omega) rfl (Nat.le_of_ble_eq_true rfl) ⟨l_LFok hI.is6.1 hI.is7.1, l_old0⟩ dL_law_149 (fun w S J hx => ?_)
  obtain ⟨rfl, hMid⟩ := hx
  obtain ⟨⟨e1, e2⟩, kM⟩ := kM S J hMid
  refine l_ref (x := o) B dL_law_152 rfl (fun ad => l_LF2) ?_
  refine l_arg (kx := 1) B hX (fun ad => l_LF0) (fun ad => l_LF3) dL_law_153 dL_law_154 dL_law_155 dL_law_156 dL_law_157 rfl (by omega) ?_
  refine l_arg (kx := 2) B hX (fun ad => l_LF0) (fun ad => l_LF3) dL_law_158 dL_law_159 dL_law_160 dL_law_161 dL_law_162 rfl (by omega) ?_
  refine l_arg (kx := 3) B hX (fun ad => l_LF0) (fun ad => l_LF3) dL_law_163 dL_law_164 dL_law_165 dL_law_166 dL_law_167 rfl (by omega) ?_
  refine l_arg (kx := 4) B hX (fun ad => l_LF0) (fun ad => l_LF3) dL_law_168 dL_law_169 dL_law_170 dL_law_171 dL_law_172 rfl (by omega) ?_
  refine l_callV (rc := rc) (rs := rs) (mc := 0) (ms := 0) B kM kv_yX7_thing ki_yX7_thing ks_yX7_thing km_L_17 rfl (ci := 7) rfl rfl e2 (by omega) rfl (Nat.le_of_ble_eq_true rfl) ⟨l_LFok e1 e2.1, l_old1⟩ dL_law_173 (fun w S2 J2 hx => ?_)
  obtain ⟨rfl, hI2⟩ := hx
  exact l_icmp_eq B dL_law_176 (tgt := 668) (by decide) (hk S2 J2 hI2)
set_option maxRecDepth 100000 in
set_option maxHeartbeats 4000000 in
theorem l_b_fixer (B : q_Ok Γ (l_Y nm) 10) (hX : va_X b L xs (q_s Γ) (q_s Γ).heap ∧ b < (q_s Γ).heap.size ∧ ¬ q_A Γ b ∧ L < 2 ^ 31) (hlt : i + 5 ≤ L) (hI : l_I d o Sh I) (hk : ∀ S J, l_I d o S J → l_W Γ rc rs S J 668 (l_LF b d o i) []) : l_W Γ (rc + 47) (rs + 343) Sh I 181 (l_LF b d o i) [] := by
  refine l_ref (x := d) B dL_law_181 rfl (fun ad => l_LF1) ?_
  refine l_arg (kx := 1) B hX (fun ad => l_LF0) (fun ad => l_LF3) dL_law_182 dL_law_183 dL_law_184 dL_law_185 dL_law_186 rfl (by omega) ?_
  refine l_arg (kx := 2) B hX (fun ad => l_LF0) (fun ad => l_LF3) dL_law_187 dL_law_188 dL_law_189 dL_law_190 dL_law_191 rfl (by omega) ?_
  obtain ⟨dC, dM, mc, ms, v, Mid, ⟨g1, g2, g3, g4⟩, kC, kM⟩ := l_fixer hI (k := xs (i + 1)) (c := xs (i + 2))
  refine l_less (rc' := rc + mc) (rs' := rs + ms) (by omega) (by omega) ?_
  refine l_callV (rc := rc) (rs := rs) B kC kv_yX6_fixer ki_yX6_fixer ks_yX6_fixer km_L_18 rfl (ci := 6) rfl rfl hI.is6 (by omega) rfl (Nat.le_of_ble_eq_true rfl) ⟨l_LFok hI.is6.1 hI.is7.1, l_old0⟩ dL_law_192 (fun w S J hx => ?_)
  obtain ⟨rfl, hMid⟩ := hx
  obtain ⟨⟨e1, e2⟩, kM⟩ := kM S J hMid
  refine l_ref (x := o) B dL_law_195 rfl (fun ad => l_LF2) ?_
  refine l_arg (kx := 1) B hX (fun ad => l_LF0) (fun ad => l_LF3) dL_law_196 dL_law_197 dL_law_198 dL_law_199 dL_law_200 rfl (by omega) ?_
  refine l_arg (kx := 2) B hX (fun ad => l_LF0) (fun ad => l_LF3) dL_law_201 dL_law_202 dL_law_203 dL_law_204 dL_law_205 rfl (by omega) ?_
  refine l_callV (rc := rc) (rs := rs) (mc := 0) (ms := 0) B kM kv_yX7_fixer ki_yX7_fixer ks_yX7_fixer km_L_22 rfl (ci := 7) rfl rfl e2 (by omega) rfl (Nat.le_of_ble_eq_true rfl) ⟨l_LFok e1 e2.1, l_old1⟩ dL_law_206 (fun w S2 J2 hx => ?_)
  obtain ⟨rfl, hI2⟩ := hx
  exact l_icmp_eq B dL_law_209 (tgt := 668) (by decide) (hk S2 J2 hI2)
set_option maxRecDepth 100000 in
set_option maxHeartbeats 4000000 in
theorem l_b_drawer (B : q_Ok Γ (l_Y nm) 10) (hX : va_X b L xs (q_s Γ) (q_s Γ).heap ∧ b < (q_s Γ).heap.size ∧ ¬ q_A Γ b ∧ L < 2 ^ 31) (hlt : i + 5 ≤ L) (hI : l_I d o Sh I) (hk : ∀ S J, l_I d o S J → l_W Γ rc rs S J 668 (l_LF b d o i) []) : l_W Γ (rc + 47) (rs + 343) Sh I 214 (l_LF b d o i) [] := by
  refine l_ref (x := d) B dL_law_214 rfl (fun ad => l_LF1) ?_
  refine l_arg (kx := 1) B hX (fun ad => l_LF0) (fun ad => l_LF3) dL_law_215 dL_law_216 dL_law_217 dL_law_218 dL_law_219 rfl (by omega) ?_
  refine l_arg (kx := 2) B hX (fun ad => l_LF0) (fun ad => l_LF3) dL_law_220 dL_law_221 dL_law_222 dL_law_223 dL_law_224 rfl (by omega) ?_
  obtain ⟨dC, dM, mc, ms, v, Mid, ⟨g1, g2, g3, g4⟩, kC, kM⟩ := l_drawer hI (p := xs (i + 1)) (m := xs (i + 2))
  refine l_less (rc' := rc + mc) (rs' := rs + ms) (by omega) (by omega) ?_
  refine l_callV (rc := rc) (rs := rs) B kC kv_yX6_drawer ki_yX6_drawer ks_yX6_drawer km_L_23 rfl (ci := 6) rfl rfl hI.is6 (by omega) rfl (Nat.le_of_ble_eq_true rfl) ⟨l_LFok hI.is6.1 hI.is7.1, l_old0⟩ dL_law_225 (fun w S J hx => ?_)
  obtain ⟨rfl, hMid⟩ := hx
  obtain ⟨⟨e1, e2⟩, kM⟩ := kM S J hMid
  refine l_ref (x := o) B dL_law_228 rfl (fun ad => l_LF2) ?_
  refine l_arg (kx := 1) B hX (fun ad => l_LF0) (fun ad => l_LF3) dL_law_229 dL_law_230 dL_law_231 dL_law_232 dL_law_233 rfl (by omega) ?_
  refine l_arg (kx := 2) B hX (fun ad => l_LF0) (fun ad => l_LF3) dL_law_234 dL_law_235 dL_law_236 dL_law_237 dL_law_238 rfl (by omega) ?_
  refine l_callV (rc := rc) (rs := rs) (mc := 0) (ms := 0) B kM kv_yX7_drawer ki_yX7_drawer ks_yX7_drawer km_L_26 rfl (ci := 7) rfl rfl e2 (by omega) rfl (Nat.le_of_ble_eq_true rfl) ⟨l_LFok e1 e2.1, l_old1⟩ dL_law_239 (fun w S2 J2 hx => ?_)
  obtain ⟨rfl, hI2⟩ := hx
  exact l_icmp_eq B dL_law_242 (tgt := 668) (by decide) (hk S2 J2 hI2)
set_option maxRecDepth 100000 in
set_option maxHeartbeats 4000000 in
theorem l_b_giveUp (B : q_Ok Γ (l_Y nm) 10) (hX : va_X b L xs (q_s Γ) (q_s Γ).heap ∧ b < (q_s Γ).heap.size ∧ ¬ q_A Γ b ∧ L < 2 ^ 31) (hlt : i + 5 ≤ L) (hI : l_I d o Sh I) (hk : ∀ S J, l_I d o S J → l_W Γ rc rs S J 668 (l_LF b d o i) []) : l_W Γ (rc + 47) (rs + 343) Sh I 247 (l_LF b d o i) [] := by
  refine l_ref (x := d) B dL_law_247 rfl (fun ad => l_LF1) ?_
  refine l_arg (kx := 1) B hX (fun ad => l_LF0) (fun ad => l_LF3) dL_law_248 dL_law_249 dL_law_250 dL_law_251 dL_law_252 rfl (by omega) ?_
  obtain ⟨dC, dM, mc, ms, v, Mid, ⟨g1, g2, g3, g4⟩, kC, kM⟩ := l_giveUp hI (t := xs (i + 1))
  refine l_less (rc' := rc + mc) (rs' := rs + ms) (by omega) (by omega) ?_
  refine l_callV (rc := rc) (rs := rs) B kC kv_yX6_giveUp ki_yX6_giveUp ks_yX6_giveUp km_L_27 rfl (ci := 6) rfl rfl hI.is6 (by omega) rfl (Nat.le_of_ble_eq_true rfl) ⟨l_LFok hI.is6.1 hI.is7.1, l_old0⟩ dL_law_253 (fun w S J hx => ?_)
  obtain ⟨rfl, hMid⟩ := hx
  obtain ⟨⟨e1, e2⟩, kM⟩ := kM S J hMid
  refine l_ref (x := o) B dL_law_256 rfl (fun ad => l_LF2) ?_
  refine l_arg (kx := 1) B hX (fun ad => l_LF0) (fun ad => l_LF3) dL_law_257 dL_law_258 dL_law_259 dL_law_260 dL_law_261 rfl (by omega) ?_
  refine l_callV (rc := rc) (rs := rs) (mc := 0) (ms := 0) B kM kv_yX7_giveUp ki_yX7_giveUp ks_yX7_giveUp km_L_31 rfl (ci := 7) rfl rfl e2 (by omega) rfl (Nat.le_of_ble_eq_true rfl) ⟨l_LFok e1 e2.1, l_old1⟩ dL_law_262 (fun w S2 J2 hx => ?_)
  obtain ⟨rfl, hI2⟩ := hx
  exact l_icmp_eq B dL_law_265 (tgt := 668) (by decide) (hk S2 J2 hI2)
set_option maxRecDepth 100000 in
set_option maxHeartbeats 4000000 in
theorem l_b_pass (B : q_Ok Γ (l_Y nm) 10) (hX : va_X b L xs (q_s Γ) (q_s Γ).heap ∧ b < (q_s Γ).heap.size ∧ ¬ q_A Γ b ∧ L < 2 ^ 31) (hlt : i + 5 ≤ L) (hI : l_I d o Sh I) (hk : ∀ S J, l_I d o S J → l_W Γ rc rs S J 668 (l_LF b d o i) []) : l_W Γ (rc + 47) (rs + 343) Sh I 270 (l_LF b d o i) [] := by
  refine l_ref (x := d) B dL_law_270 rfl (fun ad => l_LF1) ?_
  refine l_arg (kx := 1) B hX (fun ad => l_LF0) (fun ad => l_LF3) dL_law_271 dL_law_272 dL_law_273 dL_law_274 dL_law_275 rfl (by omega) ?_
  obtain ⟨dC, dM, mc, ms, v, Mid, ⟨g1, g2, g3, g4⟩, kC, kM⟩ := l_pass hI (m := xs (i + 1))
  refine l_less (rc' := rc + mc) (rs' := rs + ms) (by omega) (by omega) ?_
  refine l_callV (rc := rc) (rs := rs) B kC kv_yX6_pass ki_yX6_pass ks_yX6_pass km_L_32 rfl (ci := 6) rfl rfl hI.is6 (by omega) rfl (Nat.le_of_ble_eq_true rfl) ⟨l_LFok hI.is6.1 hI.is7.1, l_old0⟩ dL_law_276 (fun w S J hx => ?_)
  obtain ⟨rfl, hMid⟩ := hx
  obtain ⟨⟨e1, e2⟩, kM⟩ := kM S J hMid
  refine l_ref (x := o) B dL_law_279 rfl (fun ad => l_LF2) ?_
  refine l_arg (kx := 1) B hX (fun ad => l_LF0) (fun ad => l_LF3) dL_law_280 dL_law_281 dL_law_282 dL_law_283 dL_law_284 rfl (by omega) ?_
  refine l_callV (rc := rc) (rs := rs) (mc := 0) (ms := 0) B kM kv_yX7_pass ki_yX7_pass ks_yX7_pass km_L_35 rfl (ci := 7) rfl rfl e2 (by omega) rfl (Nat.le_of_ble_eq_true rfl) ⟨l_LFok e1 e2.1, l_old1⟩ dL_law_285 (fun w S2 J2 hx => ?_)
  obtain ⟨rfl, hI2⟩ := hx
  exact l_icmp_eq B dL_law_288 (tgt := 668) (by decide) (hk S2 J2 hI2)
set_option maxRecDepth 100000 in
set_option maxHeartbeats 4000000 in
theorem l_b_ofThing (B : q_Ok Γ (l_Y nm) 10) (hX : va_X b L xs (q_s Γ) (q_s Γ).heap ∧ b < (q_s Γ).heap.size ∧ ¬ q_A Γ b ∧ L < 2 ^ 31) (hlt : i + 5 ≤ L) (hI : l_I d o Sh I) (hk : ∀ S J, l_I d o S J → l_W Γ rc rs S J 668 (l_LF b d o i) []) : l_W Γ (rc + 47) (rs + 343) Sh I 293 (l_LF b d o i) [] := by
  refine l_ref (x := d) B dL_law_293 rfl (fun ad => l_LF1) ?_
  refine l_arg (kx := 1) B hX (fun ad => l_LF0) (fun ad => l_LF3) dL_law_294 dL_law_295 dL_law_296 dL_law_297 dL_law_298 rfl (by omega) ?_
  refine l_arg (kx := 2) B hX (fun ad => l_LF0) (fun ad => l_LF3) dL_law_299 dL_law_300 dL_law_301 dL_law_302 dL_law_303 rfl (by omega) ?_
  obtain ⟨dC, dM, mc, ms, v, Mid, ⟨g1, g2, g3, g4⟩, kC, kM⟩ := l_ofThing hI (t := xs (i + 1)) (w := xs (i + 2))
  refine l_less (rc' := rc + mc) (rs' := rs + ms) (by omega) (by omega) ?_
  refine l_callV (rc := rc) (rs := rs) B kC kv_yX6_ofThing ki_yX6_ofThing ks_yX6_ofThing km_L_36 rfl (ci := 6) rfl rfl hI.is6 (by omega) rfl (Nat.le_of_ble_eq_true rfl) ⟨l_LFok hI.is6.1 hI.is7.1, l_old0⟩ dL_law_304 (fun w S J hx => ?_)
  obtain ⟨rfl, hMid⟩ := hx
  obtain ⟨⟨e1, e2⟩, kM⟩ := kM S J hMid
  refine l_ref (x := o) B dL_law_307 rfl (fun ad => l_LF2) ?_
  refine l_arg (kx := 1) B hX (fun ad => l_LF0) (fun ad => l_LF3) dL_law_308 dL_law_309 dL_law_310 dL_law_311 dL_law_312 rfl (by omega) ?_
  refine l_arg (kx := 2) B hX (fun ad => l_LF0) (fun ad => l_LF3) dL_law_313 dL_law_314 dL_law_315 dL_law_316 dL_law_317 rfl (by omega) ?_
  refine l_callV (rc := rc) (rs := rs) (mc := 0) (ms := 0) B kM kv_yX7_ofThing ki_yX7_ofThing ks_yX7_ofThing km_L_39 rfl (ci := 7) rfl rfl e2 (by omega) rfl (Nat.le_of_ble_eq_true rfl) ⟨l_LFok e1 e2.1, l_old1⟩ dL_law_318 (fun w S2 J2 hx => ?_)
  obtain ⟨rfl, hI2⟩ := hx
  exact l_icmp_eq B dL_law_321 (tgt := 668) (by decide) (hk S2 J2 hI2)
set_option maxRecDepth 100000 in
set_option maxHeartbeats 4000000 in
theorem l_b_ofFixer (B : q_Ok Γ (l_Y nm) 10) (hX : va_X b L xs (q_s Γ) (q_s Γ).heap ∧ b < (q_s Γ).heap.size ∧ ¬ q_A Γ b ∧ L < 2 ^ 31) (hlt : i + 5 ≤ L) (hI : l_I d o Sh I) (hk : ∀ S J, l_I d o S J → l_W Γ rc rs S J 668 (l_LF b d o i) []) : l_W Γ (rc + 47) (rs + 343) Sh I 326 (l_LF b d o i) [] := by
  refine l_ref (x := d) B dL_law_326 rfl (fun ad => l_LF1) ?_
  refine l_arg (kx := 1) B hX (fun ad => l_LF0) (fun ad => l_LF3) dL_law_327 dL_law_328 dL_law_329 dL_law_330 dL_law_331 rfl (by omega) ?_
  refine l_arg (kx := 2) B hX (fun ad => l_LF0) (fun ad => l_LF3) dL_law_332 dL_law_333 dL_law_334 dL_law_335 dL_law_336 rfl (by omega) ?_
  obtain ⟨dC, dM, mc, ms, v, Mid, ⟨g1, g2, g3, g4⟩, kC, kM⟩ := l_ofFixer hI (t := xs (i + 1)) (w := xs (i + 2))
  refine l_less (rc' := rc + mc) (rs' := rs + ms) (by omega) (by omega) ?_
  refine l_callV (rc := rc) (rs := rs) B kC kv_yX6_ofFixer ki_yX6_ofFixer ks_yX6_ofFixer km_L_40 rfl (ci := 6) rfl rfl hI.is6 (by omega) rfl (Nat.le_of_ble_eq_true rfl) ⟨l_LFok hI.is6.1 hI.is7.1, l_old0⟩ dL_law_337 (fun w S J hx => ?_)
  obtain ⟨rfl, hMid⟩ := hx
  obtain ⟨⟨e1, e2⟩, kM⟩ := kM S J hMid
  refine l_ref (x := o) B dL_law_340 rfl (fun ad => l_LF2) ?_
  refine l_arg (kx := 1) B hX (fun ad => l_LF0) (fun ad => l_LF3) dL_law_341 dL_law_342 dL_law_343 dL_law_344 dL_law_345 rfl (by omega) ?_
  refine l_arg (kx := 2) B hX (fun ad => l_LF0) (fun ad => l_LF3) dL_law_346 dL_law_347 dL_law_348 dL_law_349 dL_law_350 rfl (by omega) ?_
  refine l_callV (rc := rc) (rs := rs) (mc := 0) (ms := 0) B kM kv_yX7_ofFixer ki_yX7_ofFixer ks_yX7_ofFixer km_L_43 rfl (ci := 7) rfl rfl e2 (by omega) rfl (Nat.le_of_ble_eq_true rfl) ⟨l_LFok e1 e2.1, l_old1⟩ dL_law_351 (fun w S2 J2 hx => ?_)
  obtain ⟨rfl, hI2⟩ := hx
  exact l_icmp_eq B dL_law_354 (tgt := 668) (by decide) (hk S2 J2 hI2)
set_option maxRecDepth 100000 in
set_option maxHeartbeats 4000000 in
theorem l_b_ofPart (B : q_Ok Γ (l_Y nm) 10) (hX : va_X b L xs (q_s Γ) (q_s Γ).heap ∧ b < (q_s Γ).heap.size ∧ ¬ q_A Γ b ∧ L < 2 ^ 31) (hlt : i + 5 ≤ L) (hI : l_I d o Sh I) (hk : ∀ S J, l_I d o S J → l_W Γ rc rs S J 668 (l_LF b d o i) []) : l_W Γ (rc + 47) (rs + 343) Sh I 359 (l_LF b d o i) [] := by
  refine l_ref (x := d) B dL_law_359 rfl (fun ad => l_LF1) ?_
  refine l_arg (kx := 1) B hX (fun ad => l_LF0) (fun ad => l_LF3) dL_law_360 dL_law_361 dL_law_362 dL_law_363 dL_law_364 rfl (by omega) ?_
  refine l_arg (kx := 2) B hX (fun ad => l_LF0) (fun ad => l_LF3) dL_law_365 dL_law_366 dL_law_367 dL_law_368 dL_law_369 rfl (by omega) ?_
  obtain ⟨dC, dM, mc, ms, v, Mid, ⟨g1, g2, g3, g4⟩, kC, kM⟩ := l_ofPart hI (p := xs (i + 1)) (w := xs (i + 2))
  refine l_less (rc' := rc + mc) (rs' := rs + ms) (by omega) (by omega) ?_
  refine l_callV (rc := rc) (rs := rs) B kC kv_yX6_ofPart ki_yX6_ofPart ks_yX6_ofPart km_L_44 rfl (ci := 6) rfl rfl hI.is6 (by omega) rfl (Nat.le_of_ble_eq_true rfl) ⟨l_LFok hI.is6.1 hI.is7.1, l_old0⟩ dL_law_370 (fun w S J hx => ?_)
  obtain ⟨rfl, hMid⟩ := hx
  obtain ⟨⟨e1, e2⟩, kM⟩ := kM S J hMid
  refine l_ref (x := o) B dL_law_373 rfl (fun ad => l_LF2) ?_
  refine l_arg (kx := 1) B hX (fun ad => l_LF0) (fun ad => l_LF3) dL_law_374 dL_law_375 dL_law_376 dL_law_377 dL_law_378 rfl (by omega) ?_
  refine l_arg (kx := 2) B hX (fun ad => l_LF0) (fun ad => l_LF3) dL_law_379 dL_law_380 dL_law_381 dL_law_382 dL_law_383 rfl (by omega) ?_
  refine l_callV (rc := rc) (rs := rs) (mc := 0) (ms := 0) B kM kv_yX7_ofPart ki_yX7_ofPart ks_yX7_ofPart km_L_47 rfl (ci := 7) rfl rfl e2 (by omega) rfl (Nat.le_of_ble_eq_true rfl) ⟨l_LFok e1 e2.1, l_old1⟩ dL_law_384 (fun w S2 J2 hx => ?_)
  obtain ⟨rfl, hI2⟩ := hx
  exact l_icmp_eq B dL_law_387 (tgt := 668) (by decide) (hk S2 J2 hI2)
set_option maxRecDepth 100000 in
set_option maxHeartbeats 4000000 in
theorem l_b_count (B : q_Ok Γ (l_Y nm) 10) (hX : va_X b L xs (q_s Γ) (q_s Γ).heap ∧ b < (q_s Γ).heap.size ∧ ¬ q_A Γ b ∧ L < 2 ^ 31) (hlt : i + 5 ≤ L) (hI : l_I d o Sh I) (hk : ∀ S J, l_I d o S J → l_W Γ rc rs S J 668 (l_LF b d o i) []) : l_W Γ (rc + 47) (rs + 343) Sh I 392 (l_LF b d o i) [] := by
  refine l_ref (x := d) B dL_law_392 rfl (fun ad => l_LF1) ?_
  refine l_arg (kx := 1) B hX (fun ad => l_LF0) (fun ad => l_LF3) dL_law_393 dL_law_394 dL_law_395 dL_law_396 dL_law_397 rfl (by omega) ?_
  obtain ⟨dC, dM, mc, ms, v, Mid, ⟨g1, g2, g3, g4⟩, kC, kM⟩ := l_count hI (w := xs (i + 1))
  refine l_less (rc' := rc + mc) (rs' := rs + ms) (by omega) (by omega) ?_
  refine l_callV (rc := rc) (rs := rs) B kC kv_yX6_count ki_yX6_count ks_yX6_count km_L_48 rfl (ci := 6) rfl rfl hI.is6 (by omega) rfl (Nat.le_of_ble_eq_true rfl) ⟨l_LFok hI.is6.1 hI.is7.1, l_old0⟩ dL_law_398 (fun w S J hx => ?_)
  obtain ⟨rfl, hMid⟩ := hx
  obtain ⟨⟨e1, e2⟩, kM⟩ := kM S J hMid
  refine l_ref (x := o) B dL_law_401 rfl (fun ad => l_LF2) ?_
  refine l_arg (kx := 1) B hX (fun ad => l_LF0) (fun ad => l_LF3) dL_law_402 dL_law_403 dL_law_404 dL_law_405 dL_law_406 rfl (by omega) ?_
  refine l_callV (rc := rc) (rs := rs) (mc := 0) (ms := 0) B kM kv_yX7_count ki_yX7_count ks_yX7_count km_L_51 rfl (ci := 7) rfl rfl e2 (by omega) rfl (Nat.le_of_ble_eq_true rfl) ⟨l_LFok e1 e2.1, l_old1⟩ dL_law_407 (fun w S2 J2 hx => ?_)
  obtain ⟨rfl, hI2⟩ := hx
  exact l_icmp_eq B dL_law_410 (tgt := 668) (by decide) (hk S2 J2 hI2)
set_option maxRecDepth 100000 in
set_option maxHeartbeats 4000000 in
theorem l_b_scarcest (B : q_Ok Γ (l_Y nm) 10) (hX : va_X b L xs (q_s Γ) (q_s Γ).heap ∧ b < (q_s Γ).heap.size ∧ ¬ q_A Γ b ∧ L < 2 ^ 31) (hlt : i + 5 ≤ L) (hI : l_I d o Sh I) (hk : ∀ S J, l_I d o S J → l_W Γ rc rs S J 668 (l_LF b d o i) []) : l_W Γ (rc + 47) (rs + 343) Sh I 415 (l_LF b d o i) [] := by
  refine l_ref (x := d) B dL_law_415 rfl (fun ad => l_LF1) ?_
  obtain ⟨dC, dM, mc, ms, v, Mid, ⟨g1, g2, g3, g4⟩, kC, kM⟩ := l_scarcest hI 
  refine l_less (rc' := rc + mc) (rs' := rs + ms) (by omega) (by omega) ?_
  refine l_callV (rc := rc) (rs := rs) B kC kv_yX6_scarcest ki_yX6_scarcest ks_yX6_scarcest km_L_52 rfl (ci := 6) rfl rfl hI.is6 (by omega) rfl (Nat.le_of_ble_eq_true rfl) ⟨l_LFok hI.is6.1 hI.is7.1, l_old0⟩ dL_law_416 (fun w S J hx => ?_)
  obtain ⟨rfl, hMid⟩ := hx
  obtain ⟨⟨e1, e2⟩, kM⟩ := kM S J hMid
  refine l_ref (x := o) B dL_law_419 rfl (fun ad => l_LF2) ?_
  refine l_callV (rc := rc) (rs := rs) (mc := 0) (ms := 0) B kM kv_yX7_scarcest ki_yX7_scarcest ks_yX7_scarcest km_L_56 rfl (ci := 7) rfl rfl e2 (by omega) rfl (Nat.le_of_ble_eq_true rfl) ⟨l_LFok e1 e2.1, l_old1⟩ dL_law_420 (fun w S2 J2 hx => ?_)
  obtain ⟨rfl, hI2⟩ := hx
  exact l_icmp_eq B dL_law_423 (tgt := 668) (by decide) (hk S2 J2 hI2)
set_option maxRecDepth 100000 in
set_option maxHeartbeats 4000000 in
theorem l_b_doneIn (B : q_Ok Γ (l_Y nm) 10) (hX : va_X b L xs (q_s Γ) (q_s Γ).heap ∧ b < (q_s Γ).heap.size ∧ ¬ q_A Γ b ∧ L < 2 ^ 31) (hlt : i + 5 ≤ L) (hI : l_I d o Sh I) (hk : ∀ S J, l_I d o S J → l_W Γ rc rs S J 668 (l_LF b d o i) []) : l_W Γ (rc + 47) (rs + 343) Sh I 428 (l_LF b d o i) [] := by
  refine l_ref (x := d) B dL_law_428 rfl (fun ad => l_LF1) ?_
  refine l_arg (kx := 1) B hX (fun ad => l_LF0) (fun ad => l_LF3) dL_law_429 dL_law_430 dL_law_431 dL_law_432 dL_law_433 rfl (by omega) ?_
  obtain ⟨dC, dM, mc, ms, v, Mid, ⟨g1, g2, g3, g4⟩, kC, kM⟩ := l_doneIn hI (t := xs (i + 1))
  refine l_less (rc' := rc + mc) (rs' := rs + ms) (by omega) (by omega) ?_
  refine l_callV (rc := rc) (rs := rs) B kC kv_yX6_doneIn ki_yX6_doneIn ks_yX6_doneIn km_L_57 rfl (ci := 6) rfl rfl hI.is6 (by omega) rfl (Nat.le_of_ble_eq_true rfl) ⟨l_LFok hI.is6.1 hI.is7.1, l_old0⟩ dL_law_434 (fun w S J hx => ?_)
  obtain ⟨rfl, hMid⟩ := hx
  obtain ⟨⟨e1, e2⟩, kM⟩ := kM S J hMid
  refine l_ref (x := o) B dL_law_437 rfl (fun ad => l_LF2) ?_
  refine l_arg (kx := 1) B hX (fun ad => l_LF0) (fun ad => l_LF3) dL_law_438 dL_law_439 dL_law_440 dL_law_441 dL_law_442 rfl (by omega) ?_
  refine l_callV (rc := rc) (rs := rs) (mc := 0) (ms := 0) B kM kv_yX7_doneIn ki_yX7_doneIn ks_yX7_doneIn km_L_60 rfl (ci := 7) rfl rfl e2 (by omega) rfl (Nat.le_of_ble_eq_true rfl) ⟨l_LFok e1 e2.1, l_old1⟩ dL_law_443 (fun w S2 J2 hx => ?_)
  obtain ⟨rfl, hI2⟩ := hx
  exact l_icmp_eq B dL_law_446 (tgt := 668) (by decide) (hk S2 J2 hI2)
set_option maxRecDepth 100000 in
set_option maxHeartbeats 4000000 in
theorem l_b_withFixer (B : q_Ok Γ (l_Y nm) 10) (hX : va_X b L xs (q_s Γ) (q_s Γ).heap ∧ b < (q_s Γ).heap.size ∧ ¬ q_A Γ b ∧ L < 2 ^ 31) (hlt : i + 5 ≤ L) (hI : l_I d o Sh I) (hk : ∀ S J, l_I d o S J → l_W Γ rc rs S J 668 (l_LF b d o i) []) : l_W Γ (rc + 47) (rs + 343) Sh I 451 (l_LF b d o i) [] := by
  refine l_ref (x := d) B dL_law_451 rfl (fun ad => l_LF1) ?_
  refine l_arg (kx := 1) B hX (fun ad => l_LF0) (fun ad => l_LF3) dL_law_452 dL_law_453 dL_law_454 dL_law_455 dL_law_456 rfl (by omega) ?_
  refine l_arg (kx := 2) B hX (fun ad => l_LF0) (fun ad => l_LF3) dL_law_457 dL_law_458 dL_law_459 dL_law_460 dL_law_461 rfl (by omega) ?_
  refine l_arg (kx := 3) B hX (fun ad => l_LF0) (fun ad => l_LF3) dL_law_462 dL_law_463 dL_law_464 dL_law_465 dL_law_466 rfl (by omega) ?_
  obtain ⟨dC, dM, mc, ms, v, Mid, ⟨g1, g2, g3, g4⟩, kC, kM⟩ := l_withFixer hI (k := xs (i + 1)) (c := xs (i + 2)) (m := xs (i + 3))
  refine l_less (rc' := rc + mc) (rs' := rs + ms) (by omega) (by omega) ?_
  refine l_callV (rc := rc) (rs := rs) B kC kv_yX6_withFixer ki_yX6_withFixer ks_yX6_withFixer km_L_61 rfl (ci := 6) rfl rfl hI.is6 (by omega) rfl (Nat.le_of_ble_eq_true rfl) ⟨l_LFok hI.is6.1 hI.is7.1, l_old0⟩ dL_law_467 (fun w S J hx => ?_)
  obtain ⟨rfl, hMid⟩ := hx
  obtain ⟨⟨e1, e2⟩, kM⟩ := kM S J hMid
  refine l_ref (x := o) B dL_law_470 rfl (fun ad => l_LF2) ?_
  refine l_arg (kx := 1) B hX (fun ad => l_LF0) (fun ad => l_LF3) dL_law_471 dL_law_472 dL_law_473 dL_law_474 dL_law_475 rfl (by omega) ?_
  refine l_arg (kx := 2) B hX (fun ad => l_LF0) (fun ad => l_LF3) dL_law_476 dL_law_477 dL_law_478 dL_law_479 dL_law_480 rfl (by omega) ?_
  refine l_arg (kx := 3) B hX (fun ad => l_LF0) (fun ad => l_LF3) dL_law_481 dL_law_482 dL_law_483 dL_law_484 dL_law_485 rfl (by omega) ?_
  refine l_callV (rc := rc) (rs := rs) (mc := 0) (ms := 0) B kM kv_yX7_withFixer ki_yX7_withFixer ks_yX7_withFixer km_L_65 rfl (ci := 7) rfl rfl e2 (by omega) rfl (Nat.le_of_ble_eq_true rfl) ⟨l_LFok e1 e2.1, l_old1⟩ dL_law_486 (fun w S2 J2 hx => ?_)
  obtain ⟨rfl, hI2⟩ := hx
  exact l_icmp_eq B dL_law_489 (tgt := 668) (by decide) (hk S2 J2 hI2)
set_option maxRecDepth 100000 in
set_option maxHeartbeats 4000000 in
theorem l_b_bestCare (B : q_Ok Γ (l_Y nm) 10) (hX : va_X b L xs (q_s Γ) (q_s Γ).heap ∧ b < (q_s Γ).heap.size ∧ ¬ q_A Γ b ∧ L < 2 ^ 31) (hlt : i + 5 ≤ L) (hI : l_I d o Sh I) (hk : ∀ S J, l_I d o S J → l_W Γ rc rs S J 668 (l_LF b d o i) []) : l_W Γ (rc + 47) (rs + 343) Sh I 494 (l_LF b d o i) [] := by
  refine l_ref (x := d) B dL_law_494 rfl (fun ad => l_LF1) ?_
  refine l_arg (kx := 1) B hX (fun ad => l_LF0) (fun ad => l_LF3) dL_law_495 dL_law_496 dL_law_497 dL_law_498 dL_law_499 rfl (by omega) ?_
  obtain ⟨dC, dM, mc, ms, v, Mid, ⟨g1, g2, g3, g4⟩, kC, kM⟩ := l_bestCare hI (m := xs (i + 1))
  refine l_less (rc' := rc + mc) (rs' := rs + ms) (by omega) (by omega) ?_
  refine l_callV (rc := rc) (rs := rs) B kC kv_yX6_bestCare ki_yX6_bestCare ks_yX6_bestCare km_L_66 rfl (ci := 6) rfl rfl hI.is6 (by omega) rfl (Nat.le_of_ble_eq_true rfl) ⟨l_LFok hI.is6.1 hI.is7.1, l_old0⟩ dL_law_500 (fun w S J hx => ?_)
  obtain ⟨rfl, hMid⟩ := hx
  obtain ⟨⟨e1, e2⟩, kM⟩ := kM S J hMid
  refine l_ref (x := o) B dL_law_503 rfl (fun ad => l_LF2) ?_
  refine l_arg (kx := 1) B hX (fun ad => l_LF0) (fun ad => l_LF3) dL_law_504 dL_law_505 dL_law_506 dL_law_507 dL_law_508 rfl (by omega) ?_
  refine l_callV (rc := rc) (rs := rs) (mc := 0) (ms := 0) B kM kv_yX7_bestCare ki_yX7_bestCare ks_yX7_bestCare km_L_69 rfl (ci := 7) rfl rfl e2 (by omega) rfl (Nat.le_of_ble_eq_true rfl) ⟨l_LFok e1 e2.1, l_old1⟩ dL_law_509 (fun w S2 J2 hx => ?_)
  obtain ⟨rfl, hI2⟩ := hx
  exact l_icmp_eq B dL_law_512 (tgt := 668) (by decide) (hk S2 J2 hI2)
set_option maxRecDepth 100000 in
set_option maxHeartbeats 4000000 in
theorem l_b_put (B : q_Ok Γ (l_Y nm) 10) (hX : va_X b L xs (q_s Γ) (q_s Γ).heap ∧ b < (q_s Γ).heap.size ∧ ¬ q_A Γ b ∧ L < 2 ^ 31) (hlt : i + 5 ≤ L) (hI : l_I d o Sh I) (hk : ∀ S J, l_I d o S J → l_W Γ rc rs S J 668 (l_LF b d o i) []) : l_W Γ (rc + 47) (rs + 343) Sh I 517 (l_LF b d o i) [] := by
  refine l_ref (x := d) B dL_law_517 rfl (fun ad => l_LF1) ?_
  refine l_arg (kx := 1) B hX (fun ad => l_LF0) (fun ad => l_LF3) dL_law_518 dL_law_519 dL_law_520 dL_law_521 dL_law_522 rfl (by omega) ?_
  refine l_i2l B dL_law_523 ?_
  refine l_bipush (v := nI 32) B dL_law_524 rfl ?_
  refine l_lshl B dL_law_526 ?_
  refine l_arg (kx := 2) B hX (fun ad => l_LF0) (fun ad => l_LF3) dL_law_527 dL_law_528 dL_law_529 dL_law_530 dL_law_531 rfl (by omega) ?_
  refine l_i2l B dL_law_532 ?_
  refine l_ldc2 B kg_L_70 dL_law_533 ?_
  refine l_land B dL_law_536 ?_
  refine l_lor B dL_law_537 ?_
  obtain ⟨dC, dM, mc, ms, v, Mid, ⟨g1, g2, g3, g4⟩, kC, kM⟩ := l_put hI (x := ((xs (i + 1)).toInt64 <<< ((nI 32).toInt64 &&& 63)) ||| ((xs (i + 2)).toInt64 &&& 4294967295))
  refine l_less (rc' := rc + mc) (rs' := rs + ms) (by omega) (by omega) ?_
  refine l_callV (rc := rc) (rs := rs) B kC kv_yX6_put ki_yX6_put ks_yX6_put km_L_72 rfl (ci := 6) rfl rfl hI.is6 (by omega) rfl (Nat.le_of_ble_eq_true rfl) ⟨l_LFok hI.is6.1 hI.is7.1, l_old0⟩ dL_law_538 (fun w S J hx => ?_)
  obtain ⟨rfl, hMid⟩ := hx
  obtain ⟨⟨e1, e2⟩, kM⟩ := kM S J hMid
  refine l_ref (x := o) B dL_law_541 rfl (fun ad => l_LF2) ?_
  refine l_arg (kx := 1) B hX (fun ad => l_LF0) (fun ad => l_LF3) dL_law_542 dL_law_543 dL_law_544 dL_law_545 dL_law_546 rfl (by omega) ?_
  refine l_i2l B dL_law_547 ?_
  refine l_bipush (v := nI 32) B dL_law_548 rfl ?_
  refine l_lshl B dL_law_550 ?_
  refine l_arg (kx := 2) B hX (fun ad => l_LF0) (fun ad => l_LF3) dL_law_551 dL_law_552 dL_law_553 dL_law_554 dL_law_555 rfl (by omega) ?_
  refine l_i2l B dL_law_556 ?_
  refine l_ldc2 B kg_L_70 dL_law_557 ?_
  refine l_land B dL_law_560 ?_
  refine l_lor B dL_law_561 ?_
  refine l_callV (rc := rc) (rs := rs) (mc := 0) (ms := 0) B kM kv_yX7_put ki_yX7_put ks_yX7_put km_L_76 rfl (ci := 7) rfl rfl e2 (by omega) rfl (Nat.le_of_ble_eq_true rfl) ⟨l_LFok e1 e2.1, l_old1⟩ dL_law_562 (fun w S2 J2 hx => ?_)
  obtain ⟨rfl, hI2⟩ := hx
  exact l_icmp_eq B dL_law_565 (tgt := 668) (by decide) (hk S2 J2 hI2)
set_option maxRecDepth 100000 in
set_option maxHeartbeats 4000000 in
theorem l_b_wipe (B : q_Ok Γ (l_Y nm) 10) (hX : va_X b L xs (q_s Γ) (q_s Γ).heap ∧ b < (q_s Γ).heap.size ∧ ¬ q_A Γ b ∧ L < 2 ^ 31) (hlt : i + 5 ≤ L) (hI : l_I d o Sh I) (hk : ∀ S J, l_I d o S J → l_W Γ rc rs S J 668 (l_LF b d o i) []) : l_W Γ (rc + 47) (rs + 343) Sh I 570 (l_LF b d o i) [] := by
  refine l_ref (x := d) B dL_law_570 rfl (fun ad => l_LF1) ?_
  obtain ⟨dC, dM, mc, ms, v, Mid, ⟨g1, g2, g3, g4⟩, kC, kM⟩ := l_wipe hI 
  refine l_less (rc' := rc + mc) (rs' := rs + ms) (by omega) (by omega) ?_
  refine l_callV (rc := rc) (rs := rs) B kC kv_yX6_wipe ki_yX6_wipe ks_yX6_wipe km_L_77 rfl (ci := 6) rfl rfl hI.is6 (by omega) rfl (Nat.le_of_ble_eq_true rfl) ⟨l_LFok hI.is6.1 hI.is7.1, l_old0⟩ dL_law_571 (fun w S J hx => ?_)
  obtain ⟨rfl, hMid⟩ := hx
  obtain ⟨⟨e1, e2⟩, kM⟩ := kM S J hMid
  refine l_ref (x := o) B dL_law_574 rfl (fun ad => l_LF2) ?_
  refine l_callV (rc := rc) (rs := rs) (mc := 0) (ms := 0) B kM kv_yX7_wipe ki_yX7_wipe ks_yX7_wipe km_L_80 rfl (ci := 7) rfl rfl e2 (by omega) rfl (Nat.le_of_ble_eq_true rfl) ⟨l_LFok e1 e2.1, l_old1⟩ dL_law_575 (fun w S2 J2 hx => ?_)
  obtain ⟨rfl, hI2⟩ := hx
  exact l_icmp_eq B dL_law_578 (tgt := 668) (by decide) (hk S2 J2 hI2)
set_option maxRecDepth 100000 in
set_option maxHeartbeats 4000000 in
theorem l_b_fault (B : q_Ok Γ (l_Y nm) 10) (hX : va_X b L xs (q_s Γ) (q_s Γ).heap ∧ b < (q_s Γ).heap.size ∧ ¬ q_A Γ b ∧ L < 2 ^ 31) (hlt : i + 5 ≤ L) (hI : l_I d o Sh I) (hk : ∀ S J, l_I d o S J → l_W Γ rc rs S J 668 (l_LF b d o i) []) : l_W Γ (rc + 47) (rs + 343) Sh I 583 (l_LF b d o i) [] := by
  refine l_ref (x := d) B dL_law_583 rfl (fun ad => l_LF1) ?_
  obtain ⟨dC, dM, mc, ms, v, Mid, ⟨g1, g2, g3, g4⟩, kC, kM⟩ := l_fault hI 
  refine l_less (rc' := rc + mc) (rs' := rs + ms) (by omega) (by omega) ?_
  refine l_callV (rc := rc) (rs := rs) B kC kv_yX6_fault ki_yX6_fault ks_yX6_fault km_L_81 rfl (ci := 6) rfl rfl hI.is6 (by omega) rfl (Nat.le_of_ble_eq_true rfl) ⟨l_LFok hI.is6.1 hI.is7.1, l_old0⟩ dL_law_584 (fun w S J hx => ?_)
  obtain ⟨rfl, hMid⟩ := hx
  obtain ⟨⟨e1, e2⟩, kM⟩ := kM S J hMid
  refine l_ref (x := o) B dL_law_587 rfl (fun ad => l_LF2) ?_
  refine l_callV (rc := rc) (rs := rs) (mc := 0) (ms := 0) B kM kv_yX7_fault ki_yX7_fault ks_yX7_fault km_L_84 rfl (ci := 7) rfl rfl e2 (by omega) rfl (Nat.le_of_ble_eq_true rfl) ⟨l_LFok e1 e2.1, l_old1⟩ dL_law_588 (fun w S2 J2 hx => ?_)
  obtain ⟨rfl, hI2⟩ := hx
  exact l_icmp_eq B dL_law_591 (tgt := 668) (by decide) (hk S2 J2 hI2)
set_option maxRecDepth 100000 in
set_option maxHeartbeats 4000000 in
theorem l_b_carryOut (B : q_Ok Γ (l_Y nm) 10) (hX : va_X b L xs (q_s Γ) (q_s Γ).heap ∧ b < (q_s Γ).heap.size ∧ ¬ q_A Γ b ∧ L < 2 ^ 31) (hlt : i + 5 ≤ L) (hI : l_I d o Sh I) (hk : ∀ S J, l_I d o S J → l_W Γ rc rs S J 668 (l_LF b d o i) []) : l_W Γ (rc + 47) (rs + 343) Sh I 596 (l_LF b d o i) [] := by
  refine l_ref (x := d) B dL_law_596 rfl (fun ad => l_LF1) ?_
  obtain ⟨dC, dM, mc, ms, v, Mid, ⟨g1, g2, g3, g4⟩, kC, kM⟩ := l_carryOut hI 
  refine l_less (rc' := rc + mc) (rs' := rs + ms) (by omega) (by omega) ?_
  refine l_callV (rc := rc) (rs := rs) B kC kv_yX6_carryOut ki_yX6_carryOut ks_yX6_carryOut km_L_85 rfl (ci := 6) rfl rfl hI.is6 (by omega) rfl (Nat.le_of_ble_eq_true rfl) ⟨l_LFok hI.is6.1 hI.is7.1, l_old0⟩ dL_law_597 (fun w S J hx => ?_)
  obtain ⟨rfl, hMid⟩ := hx
  obtain ⟨⟨e1, e2⟩, kM⟩ := kM S J hMid
  refine l_ref (x := o) B dL_law_600 rfl (fun ad => l_LF2) ?_
  refine l_callV (rc := rc) (rs := rs) (mc := 0) (ms := 0) B kM kv_yX7_carryOut ki_yX7_carryOut ks_yX7_carryOut km_L_88 rfl (ci := 7) rfl rfl e2 (by omega) rfl (Nat.le_of_ble_eq_true rfl) ⟨l_LFok e1 e2.1, l_old1⟩ dL_law_601 (fun w S2 J2 hx => ?_)
  obtain ⟨rfl, hI2⟩ := hx
  exact l_icmp_eq B dL_law_604 (tgt := 668) (by decide) (hk S2 J2 hI2)
set_option maxRecDepth 100000 in
set_option maxHeartbeats 4000000 in
theorem l_b_undo (B : q_Ok Γ (l_Y nm) 10) (hX : va_X b L xs (q_s Γ) (q_s Γ).heap ∧ b < (q_s Γ).heap.size ∧ ¬ q_A Γ b ∧ L < 2 ^ 31) (hlt : i + 5 ≤ L) (hI : l_I d o Sh I) (hk : ∀ S J, l_I d o S J → l_W Γ rc rs S J 668 (l_LF b d o i) []) : l_W Γ (rc + 47) (rs + 343) Sh I 609 (l_LF b d o i) [] := by
  refine l_ref (x := d) B dL_law_609 rfl (fun ad => l_LF1) ?_
  obtain ⟨dC, dM, mc, ms, v, Mid, ⟨g1, g2, g3, g4⟩, kC, kM⟩ := l_undo hI 
  refine l_less (rc' := rc + mc) (rs' := rs + ms) (by omega) (by omega) ?_
  refine l_callV (rc := rc) (rs := rs) B kC kv_yX6_undo ki_yX6_undo ks_yX6_undo km_L_89 rfl (ci := 6) rfl rfl hI.is6 (by omega) rfl (Nat.le_of_ble_eq_true rfl) ⟨l_LFok hI.is6.1 hI.is7.1, l_old0⟩ dL_law_610 (fun w S J hx => ?_)
  obtain ⟨rfl, hMid⟩ := hx
  obtain ⟨⟨e1, e2⟩, kM⟩ := kM S J hMid
  refine l_ref (x := o) B dL_law_613 rfl (fun ad => l_LF2) ?_
  refine l_callV (rc := rc) (rs := rs) (mc := 0) (ms := 0) B kM kv_yX7_undo ki_yX7_undo ks_yX7_undo km_L_92 rfl (ci := 7) rfl rfl e2 (by omega) rfl (Nat.le_of_ble_eq_true rfl) ⟨l_LFok e1 e2.1, l_old1⟩ dL_law_614 (fun w S2 J2 hx => ?_)
  obtain ⟨rfl, hI2⟩ := hx
  exact l_icmp_eq B dL_law_617 (tgt := 668) (by decide) (hk S2 J2 hI2)
set_option maxRecDepth 100000 in
set_option maxHeartbeats 4000000 in
theorem l_b_save (B : q_Ok Γ (l_Y nm) 10) (hX : va_X b L xs (q_s Γ) (q_s Γ).heap ∧ b < (q_s Γ).heap.size ∧ ¬ q_A Γ b ∧ L < 2 ^ 31) (hlt : i + 5 ≤ L) (hI : l_I d o Sh I) (hk : ∀ S J, l_I d o S J → l_W Γ rc rs S J 668 (l_LF b d o i) []) : l_W Γ (rc + 47) (rs + 343) Sh I 622 (l_LF b d o i) [] := by
  refine l_ref (x := d) B dL_law_622 rfl (fun ad => l_LF1) ?_
  refine l_arg (kx := 1) B hX (fun ad => l_LF0) (fun ad => l_LF3) dL_law_623 dL_law_624 dL_law_625 dL_law_626 dL_law_627 rfl (by omega) ?_
  obtain ⟨dC, dM, mc, ms, v, Mid, ⟨g1, g2, g3, g4⟩, kC, kM⟩ := l_save hI (c := xs (i + 1))
  refine l_less (rc' := rc + mc) (rs' := rs + ms) (by omega) (by omega) ?_
  refine l_callV (rc := rc) (rs := rs) B kC kv_yX6_save ki_yX6_save ks_yX6_save km_L_93 rfl (ci := 6) rfl rfl hI.is6 (by omega) rfl (Nat.le_of_ble_eq_true rfl) ⟨l_LFok hI.is6.1 hI.is7.1, l_old0⟩ dL_law_628 (fun w S J hx => ?_)
  obtain ⟨rfl, hMid⟩ := hx
  obtain ⟨⟨e1, e2⟩, kM⟩ := kM S J hMid
  refine l_ref (x := o) B dL_law_631 rfl (fun ad => l_LF2) ?_
  refine l_arg (kx := 1) B hX (fun ad => l_LF0) (fun ad => l_LF3) dL_law_632 dL_law_633 dL_law_634 dL_law_635 dL_law_636 rfl (by omega) ?_
  refine l_callV (rc := rc) (rs := rs) (mc := 0) (ms := 0) B kM kv_yX7_save ki_yX7_save ks_yX7_save km_L_96 rfl (ci := 7) rfl rfl e2 (by omega) rfl (Nat.le_of_ble_eq_true rfl) ⟨l_LFok e1 e2.1, l_old1⟩ dL_law_637 (fun w S2 J2 hx => ?_)
  obtain ⟨rfl, hI2⟩ := hx
  exact l_icmp_eq B dL_law_640 (tgt := 668) (by decide) (hk S2 J2 hI2)
set_option maxRecDepth 100000 in
set_option maxHeartbeats 4000000 in
theorem l_b_restore (B : q_Ok Γ (l_Y nm) 10) (hX : va_X b L xs (q_s Γ) (q_s Γ).heap ∧ b < (q_s Γ).heap.size ∧ ¬ q_A Γ b ∧ L < 2 ^ 31) (hlt : i + 5 ≤ L) (hI : l_I d o Sh I) (hk : ∀ S J, l_I d o S J → l_W Γ rc rs S J 668 (l_LF b d o i) []) : l_W Γ (rc + 47) (rs + 343) Sh I 645 (l_LF b d o i) [] := by
  refine l_ref (x := d) B dL_law_645 rfl (fun ad => l_LF1) ?_
  refine l_arg (kx := 1) B hX (fun ad => l_LF0) (fun ad => l_LF3) dL_law_646 dL_law_647 dL_law_648 dL_law_649 dL_law_650 rfl (by omega) ?_
  obtain ⟨dC, dM, mc, ms, v, Mid, ⟨g1, g2, g3, g4⟩, kC, kM⟩ := l_restore hI (c := xs (i + 1))
  refine l_less (rc' := rc + mc) (rs' := rs + ms) (by omega) (by omega) ?_
  refine l_callV (rc := rc) (rs := rs) B kC kv_yX6_restore ki_yX6_restore ks_yX6_restore km_L_97 rfl (ci := 6) rfl rfl hI.is6 (by omega) rfl (Nat.le_of_ble_eq_true rfl) ⟨l_LFok hI.is6.1 hI.is7.1, l_old0⟩ dL_law_651 (fun w S J hx => ?_)
  obtain ⟨rfl, hMid⟩ := hx
  obtain ⟨⟨e1, e2⟩, kM⟩ := kM S J hMid
  refine l_ref (x := o) B dL_law_654 rfl (fun ad => l_LF2) ?_
  refine l_arg (kx := 1) B hX (fun ad => l_LF0) (fun ad => l_LF3) dL_law_655 dL_law_656 dL_law_657 dL_law_658 dL_law_659 rfl (by omega) ?_
  refine l_callV (rc := rc) (rs := rs) (mc := 0) (ms := 0) B kM kv_yX7_restore ki_yX7_restore ks_yX7_restore km_L_100 rfl (ci := 7) rfl rfl e2 (by omega) rfl (Nat.le_of_ble_eq_true rfl) ⟨l_LFok e1 e2.1, l_old1⟩ dL_law_660 (fun w S2 J2 hx => ?_)
  obtain ⟨rfl, hI2⟩ := hx
  exact l_icmp_eq B dL_law_663 (tgt := 668) (by decide) (hk S2 J2 hI2)
set_option maxRecDepth 100000 in
set_option maxHeartbeats 4000000 in
theorem l_body (B : q_Ok Γ (l_Y nm) 10) (hX : va_X b L xs (q_s Γ) (q_s Γ).heap ∧ b < (q_s Γ).heap.size ∧ ¬ q_A Γ b ∧ L < 2 ^ 31) (hlt : i + 5 ≤ L) (hI : l_I d o Sh I) (hk : ∀ S J, l_I d o S J → l_W Γ rc rs S J 668 (l_LF b d o i) []) : l_W Γ (rc + 47) (rs + 343) Sh I 26 (l_LF b d o i) [] := by
  refine l_first B hX (fun ad => l_LF0) (fun ad => l_LF3) dL_law_26 dL_law_27 dL_law_28 (by omega) ?_
  refine l_bipush (v := nI 31) B dL_law_29 rfl ?_
  refine l_iand B dL_law_31 ?_
  obtain ⟨j, hj, ej⟩ := a_and31 (xs i)
  rw [ej]
  rcases (by omega : j = 0 ∨ j = 1 ∨ j = 2 ∨ j = 3 ∨ j = 4 ∨ j = 5 ∨ j = 6 ∨ j = 7 ∨ j = 8 ∨ j = 9 ∨ j = 10 ∨ j = 11 ∨ j = 12 ∨ j = 13 ∨ j = 14 ∨ j = 15 ∨ j = 16 ∨ j = 17 ∨ j = 18 ∨ j = 19 ∨ 20 ≤ j) with rfl | rfl | rfl | rfl | rfl | rfl | rfl | rfl | rfl | rfl | rfl | rfl | rfl | rfl | rfl | rfl | rfl | rfl | rfl | rfl | hj20
  · exact l_tableIn (off := 96) (tgt := 128) B dL_law_32 (by decide) (by decide) rfl (by decide) (l_b_thing B hX hlt hI hk)
  · exact l_tableIn (off := 149) (tgt := 181) B dL_law_32 (by decide) (by decide) rfl (by decide) (l_b_fixer B hX hlt hI hk)
  · exact l_tableIn (off := 182) (tgt := 214) B dL_law_32 (by decide) (by decide) rfl (by decide) (l_b_drawer B hX hlt hI hk)
  · exact l_tableIn (off := 215) (tgt := 247) B dL_law_32 (by decide) (by decide) rfl (by decide) (l_b_giveUp B hX hlt hI hk)
  · exact l_tableIn (off := 238) (tgt := 270) B dL_law_32 (by decide) (by decide) rfl (by decide) (l_b_pass B hX hlt hI hk)
  · exact l_tableIn (off := 261) (tgt := 293) B dL_law_32 (by decide) (by decide) rfl (by decide) (l_b_ofThing B hX hlt hI hk)
  · exact l_tableIn (off := 294) (tgt := 326) B dL_law_32 (by decide) (by decide) rfl (by decide) (l_b_ofFixer B hX hlt hI hk)
  · exact l_tableIn (off := 327) (tgt := 359) B dL_law_32 (by decide) (by decide) rfl (by decide) (l_b_ofPart B hX hlt hI hk)
  · exact l_tableIn (off := 360) (tgt := 392) B dL_law_32 (by decide) (by decide) rfl (by decide) (l_b_count B hX hlt hI hk)
  · exact l_tableIn (off := 383) (tgt := 415) B dL_law_32 (by decide) (by decide) rfl (by decide) (l_b_scarcest B hX hlt hI hk)
  · exact l_tableIn (off := 396) (tgt := 428) B dL_law_32 (by decide) (by decide) rfl (by decide) (l_b_doneIn B hX hlt hI hk)
  · exact l_tableIn (off := 419) (tgt := 451) B dL_law_32 (by decide) (by decide) rfl (by decide) (l_b_withFixer B hX hlt hI hk)
  · exact l_tableIn (off := 462) (tgt := 494) B dL_law_32 (by decide) (by decide) rfl (by decide) (l_b_bestCare B hX hlt hI hk)
  · exact l_tableIn (off := 485) (tgt := 517) B dL_law_32 (by decide) (by decide) rfl (by decide) (l_b_put B hX hlt hI hk)
  · exact l_tableIn (off := 538) (tgt := 570) B dL_law_32 (by decide) (by decide) rfl (by decide) (l_b_wipe B hX hlt hI hk)
  · exact l_tableIn (off := 551) (tgt := 583) B dL_law_32 (by decide) (by decide) rfl (by decide) (l_b_fault B hX hlt hI hk)
  · exact l_tableIn (off := 564) (tgt := 596) B dL_law_32 (by decide) (by decide) rfl (by decide) (l_b_carryOut B hX hlt hI hk)
  · exact l_tableIn (off := 577) (tgt := 609) B dL_law_32 (by decide) (by decide) rfl (by decide) (l_b_undo B hX hlt hI hk)
  · exact l_tableIn (off := 590) (tgt := 622) B dL_law_32 (by decide) (by decide) rfl (by decide) (l_b_save B hX hlt hI hk)
  · exact l_tableIn (off := 613) (tgt := 645) B dL_law_32 (by decide) (by decide) rfl (by decide) (l_b_restore B hX hlt hI hk)
  · exact l_tableOut (tgt := 668) B dL_law_32 (Or.inr (by rw [nI_toInt (by omega)]; omega)) (by decide) (l_less (by omega) (by omega) (hk Sh I hI))
end BRANCHES
