set_option maxRecDepth 100000 in
set_option maxHeartbeats 4000000 in
theorem s_readsOrder {Sh : q_Sh} {I : q_Mem} {o : Nat} (hm : mOk Sh o) {P ob O : a_A} {len a n : Nat} {u : Bool} (hP : I (o + 6) = P) (hlen : len ≤ 80) (hl8 : ob 8 = nI len) (ha : a ≤ len) (hn : ob 12 = nI n) (hn47 : n ≤ 47) : q_Rt mX7_readsOrder 3 [.ref o] Sh (q_setA (q_setA I (o + 7) O) o (mp ob a u)) (none) (q_setA (q_setA I (o + 7) (p_fin P len n O a u).1) o (upd (mp ob (p_fin P len n O a u).2.1 (p_fin P len n O a u).2.2) 12 (nI (pN (p_fin P len n O a u).2.2 n)))) := by
  refine q_rt_of (by decide) (Nat.le_of_ble_eq_true rfl) fun Γ BM => ?_
  have B := BM.1
  have hPO : ∀ X : a_A, (q_setA I (o + 7) X) (o + 6) = P := fun X => (q_setA_ne (by omega)).trans hP
  generalize hL : p_s P len a = L
  have haL : p_let L = true → a < len := fun q => p_let_lt (by rw [hL]; exact q)
  show q_W Γ mX7_readsOrder 0 0 Sh (q_setA (q_setA I (o + 7) O) o (mp ob a u)) 0 [(0, .ref o)] []
  refine q_iconst (v := nI 5) B dX7_readsOrder_0 rfl ?_
  refine q_aload_n B dX7_readsOrder_1 rfl rfl ?_
  refine q_getIo B kC_X7 (k := 12) (by decide) rfl kf_X7_164 hm.1 ((mp_o (by decide) (by decide)).trans hn) dX7_readsOrder_2 ?_
  refine q_imul B dX7_readsOrder_5 ?_
  refine q_top (q_nI_mul 5 n) ?_
  refine q_istore_n B dX7_readsOrder_6 rfl (Nat.le_of_ble_eq_true rfl) rfl ?_
  refine q_aload_n B dX7_readsOrder_7 rfl rfl ?_
  refine q_rtV B (s_sign hm (hPO _) hlen hl8 ha) kv_yX7_sign ki_yX7_sign ks_yX7_sign km_X7_157 rfl (ci := 7) rfl rfl hm.1 (by decide) rfl (Nat.le_of_ble_eq_true rfl) dX7_readsOrder_8 ?_
  rw [hL]
  refine q_istore_n B dX7_readsOrder_11 rfl (Nat.le_of_ble_eq_true rfl) rfl ?_
  refine q_join 41 (b2 (p_let L)) ?_ (fun j_12 => ?_)
  · skip
    refine q_istore_n B dX7_readsOrder_41 rfl (Nat.le_of_ble_eq_true rfl) rfl ?_
    refine q_aload_n B dX7_readsOrder_42 rfl rfl ?_
    refine q_join 59 (b2 (u && p_let L)) ?_ (fun j_43 => ?_)
    · skip
      refine q_putIo B kC_X7 (k := 10) (by decide) rfl kf_X7_153 rfl (b2_nar _) (b2_fit _) hm.1 (mp_p10 _ _ _ _) dX7_readsOrder_59 ?_
      generalize hw1 : (u && p_let L) = w1
      refine q_aload_n B dX7_readsOrder_62 rfl rfl ?_
      refine q_dup B dX7_readsOrder_63 rfl ?_
      refine q_getIo B kC_X7 (k := 9) (by decide) rfl kf_X7_150 hm.1 (mp_9 _ _ _) dX7_readsOrder_64 ?_
      refine q_join 79 (b2 w1) ?_ (fun j_67 => ?_)
      · skip
        refine q_iadd B dX7_readsOrder_79 ?_
        refine q_putIo B kC_X7 (k := 9) (by decide) rfl kf_X7_150 rfl rfl rfl hm.1 (Eq.trans (congrArg (upd _ 9) (pN_i _ _)) (mp_p9 _ _ _ _)) dX7_readsOrder_80 ?_
        have g1 : pN w1 a ≤ len := pN_lt ha (fun q => haL (by rw [← hw1, Bool.and_eq_true] at q; exact q.2))
        generalize ha1 : pN w1 a = a1 at g1
        have j_291 : ∀ (X : a_A) (x : Nat) (y : Bool), p_fin P len n O a u = (X, x, y) → q_W Γ mX7_readsOrder 0 0 Sh (q_setA (q_setA I (o + 7) X) o (mp ob x y)) 291 [(0, .ref o), (1, .int (nI (5 * n))), (2, .int L), (3, .int (b2 (p_let L)))] [] := by
          intro X x y hr
          refine q_aload_n B dX7_readsOrder_291 rfl rfl ?_
          refine q_dup B dX7_readsOrder_292 rfl ?_
          refine q_getIo B kC_X7 (k := 12) (by decide) rfl kf_X7_164 hm.1 ((mp_o (by decide) (by decide)).trans hn) dX7_readsOrder_293 ?_
          refine q_join 308 (b2 y) ?_ (fun j_296 => ?_)
          · skip
            refine q_iadd B dX7_readsOrder_308 ?_
            refine q_putIo B kC_X7 (k := 12) (by decide) rfl kf_X7_164 rfl rfl rfl hm.1 (Eq.trans (congrArg (upd _ 12) (pN_i _ _)) rfl) dX7_readsOrder_309 ?_
            exact q_vret BM rfl dX7_readsOrder_312 ⟨rfl, rfl, by rw [hr]⟩
          · skip
            refine q_aload_n B dX7_readsOrder_296 rfl rfl ?_
            refine q_getIo B kC_X7 (k := 10) (by decide) rfl kf_X7_153 hm.1 (mp_10 _ _ _) dX7_readsOrder_297 ?_
            refine q_if_eq (tgt := 307) B dX7_readsOrder_300 (by decide) (fun c_300 => ?_) (fun c_300 => ?_)
            · skip
              refine q_iconst (v := 0) B dX7_readsOrder_307 rfl ?_
              exact q_top (by first | (exact c_300.symm; done) | (rw [b2_1 c_300]; rfl; done)) j_296
            · skip
              refine q_iconst (v := 1) B dX7_readsOrder_303 rfl ?_
              refine q_goto (tgt := 308) B dX7_readsOrder_304 (by decide) ?_
              exact q_top (by first | (exact c_300.symm; done) | (rw [b2_1 c_300]; rfl; done)) j_296
        refine q_aload_n B dX7_readsOrder_83 rfl rfl ?_
        refine q_getR B kC_X7 (k := 11) (by decide) rfl kf_X7_29 hm.1 (mR_orders hm) dX7_readsOrder_84 ?_
        refine q_iload_n B dX7_readsOrder_87 rfl rfl ?_
        refine q_iload_n B dX7_readsOrder_88 rfl rfl ?_
        refine q_iastOO (n := 5 * n) B (by omega) (mA_orders hm) rfl (by omega) (by decide) dX7_readsOrder_89 ?_
        have hfin : p_fin P len n O a u = if L = nI 43 then p_plus P len n (upd O (5 * n) L) a1 w1 else if L = nI 102 then p_fix P len n (upd O (5 * n) L) a1 w1 else if L = nI 100 then p_drw P len n (upd O (5 * n) L) a1 w1 else p_tim P len n (upd O (5 * n) L) a1 w1 := by
          unfold p_fin
          dsimp only
          rw [hL, hw1, ha1]
        generalize upd O (5 * n) L = O0 at hfin
        refine q_iload_n B dX7_readsOrder_90 rfl rfl ?_
        refine q_bipush (v := nI 43) B dX7_readsOrder_91 rfl ?_
        refine q_icmp_ne (tgt := 188) B dX7_readsOrder_93 (by decide) (fun c_93 => ?_) (fun c_93 => ?_)
        · skip
          refine q_iload_n B dX7_readsOrder_188 rfl rfl ?_
          refine q_bipush (v := nI 102) B dX7_readsOrder_189 rfl ?_
          refine q_icmp_ne (tgt := 234) B dX7_readsOrder_191 (by decide) (fun c_191 => ?_) (fun c_191 => ?_)
          · skip
            refine q_iload_n B dX7_readsOrder_234 rfl rfl ?_
            refine q_bipush (v := nI 100) B dX7_readsOrder_235 rfl ?_
            refine q_icmp_ne (tgt := 279) B dX7_readsOrder_237 (by decide) (fun c_237 => ?_) (fun c_237 => ?_)
            · skip
              refine q_aload_n B dX7_readsOrder_279 rfl rfl ?_
              refine q_getR B kC_X7 (k := 11) (by decide) rfl kf_X7_29 hm.1 (mR_orders hm) dX7_readsOrder_280 ?_
              refine q_iload_n B dX7_readsOrder_283 rfl rfl ?_
              refine q_iconst (v := nI 1) B dX7_readsOrder_284 rfl ?_
              refine q_iadd B dX7_readsOrder_285 ?_
              refine q_aload_n B dX7_readsOrder_286 rfl rfl ?_
              refine q_rtV B (s_number hm (hPO _) hlen hl8 g1) kv_yX7_number ki_yX7_number ks_yX7_number km_X7_173 rfl (ci := 7) rfl rfl hm.1 (by decide) rfl (Nat.le_of_ble_eq_true rfl) dX7_readsOrder_287 ?_
              refine q_iastOO (n := 5 * n + 1) B (by omega) (mA_orders hm) (by simp only [nI_add, q_nI_mul]) (by omega) (by decide) dX7_readsOrder_290 ?_
              exact q_tk (j_291 _ _ _ (by first | (rw [hfin, if_pos c_93]; unfold p_plus; dsimp only; rw [hk2, hb3, hd]; dsimp only; rw [hb5, hm6, hb7, he]; done) | (rw [hfin, if_neg c_93, if_pos c_191]; unfold p_fix; dsimp only; rw [hd, hb3]; done) | (rw [hfin, if_neg c_93, if_neg c_191, if_pos c_237]; unfold p_drw; dsimp only; rw [hk2, hb3]; done) | (rw [hfin, if_neg c_93, if_neg c_191, if_neg c_237]; rfl; done))) rfl (q_ac rfl (q_ac rfl (q_ac rfl (q_ac rfl q_an))))
            · skip
              refine q_aload_n B dX7_readsOrder_240 rfl rfl ?_
              refine q_getR B kC_X7 (k := 11) (by decide) rfl kf_X7_29 hm.1 (mR_orders hm) dX7_readsOrder_241 ?_
              refine q_iload_n B dX7_readsOrder_244 rfl rfl ?_
              refine q_iconst (v := nI 1) B dX7_readsOrder_245 rfl ?_
              refine q_iadd B dX7_readsOrder_246 ?_
              refine q_aload_n B dX7_readsOrder_247 rfl rfl ?_
              refine q_bipush (v := nI 7) B dX7_readsOrder_248 rfl ?_
              refine q_rtV B (s_digit (m := 7) hm (hPO _) hlen hl8 g1) kv_yX7_digit ki_yX7_digit ks_yX7_digit km_X7_161 rfl (ci := 7) rfl rfl hm.1 (by decide) rfl (Nat.le_of_ble_eq_true rfl) dX7_readsOrder_250 ?_
              refine q_iastOO (n := 5 * n + 1) B (by omega) (mA_orders hm) (by simp only [nI_add, q_nI_mul]) (by omega) (by decide) dX7_readsOrder_253 ?_
              have g2 : pN (p_ok P len 7 a1 w1) a1 ≤ len := pN_lt g1 (fun q => (p_ok_lt (by decide) q).1)
              generalize hk2 : p_ok P len 7 a1 w1 = k2 at g2
              refine q_aload_n B dX7_readsOrder_254 rfl rfl ?_
              refine q_aload_n B dX7_readsOrder_255 rfl rfl ?_
              refine q_bipush (v := nI 61) B dX7_readsOrder_256 rfl ?_
              refine q_rtV B (s_takesSign (c := nI 61) hm (hPO _) hlen hl8 g2) kv_yX7_takesSign ki_yX7_takesSign ks_yX7_takesSign km_X7_167 rfl (ci := 7) rfl rfl hm.1 (by decide) rfl (Nat.le_of_ble_eq_true rfl) dX7_readsOrder_258 ?_
              have g3 : pN (p_T P len (nI 61) (pN k2 a1) k2) (pN k2 a1) ≤ len := pN_lt g2 (fun q => (p_T_lt (by decide) q).1)
              generalize hb3 : p_T P len (nI 61) (pN k2 a1) k2 = b3 at g3
              refine q_putIo B kC_X7 (k := 10) (by decide) rfl kf_X7_153 rfl (b2_nar _) (b2_fit _) hm.1 (mp_p10 _ _ _ _) dX7_readsOrder_261 ?_
              refine q_aload_n B dX7_readsOrder_264 rfl rfl ?_
              refine q_getR B kC_X7 (k := 11) (by decide) rfl kf_X7_29 hm.1 (mR_orders hm) dX7_readsOrder_265 ?_
              refine q_iload_n B dX7_readsOrder_268 rfl rfl ?_
              refine q_iconst (v := nI 2) B dX7_readsOrder_269 rfl ?_
              refine q_iadd B dX7_readsOrder_270 ?_
              refine q_aload_n B dX7_readsOrder_271 rfl rfl ?_
              refine q_rtV B (s_number hm (hPO _) hlen hl8 g3) kv_yX7_number ki_yX7_number ks_yX7_number km_X7_173 rfl (ci := 7) rfl rfl hm.1 (by decide) rfl (Nat.le_of_ble_eq_true rfl) dX7_readsOrder_272 ?_
              refine q_iastOO (n := 5 * n + 2) B (by omega) (mA_orders hm) (by simp only [nI_add, q_nI_mul]) (by omega) (by decide) dX7_readsOrder_275 ?_
              refine q_goto (tgt := 291) B dX7_readsOrder_276 (by decide) ?_
              exact q_tk (j_291 _ _ _ (by first | (rw [hfin, if_pos c_93]; unfold p_plus; dsimp only; rw [hk2, hb3, hd]; dsimp only; rw [hb5, hm6, hb7, he]; done) | (rw [hfin, if_neg c_93, if_pos c_191]; unfold p_fix; dsimp only; rw [hd, hb3]; done) | (rw [hfin, if_neg c_93, if_neg c_191, if_pos c_237]; unfold p_drw; dsimp only; rw [hk2, hb3]; done) | (rw [hfin, if_neg c_93, if_neg c_191, if_neg c_237]; rfl; done))) rfl (q_ac rfl (q_ac rfl (q_ac rfl (q_ac rfl q_an))))
          · skip
            refine q_aload_n B dX7_readsOrder_194 rfl rfl ?_
            refine q_getR B kC_X7 (k := 11) (by decide) rfl kf_X7_29 hm.1 (mR_orders hm) dX7_readsOrder_195 ?_
            refine q_iload_n B dX7_readsOrder_198 rfl rfl ?_
            refine q_iconst (v := nI 1) B dX7_readsOrder_199 rfl ?_
            refine q_iadd B dX7_readsOrder_200 ?_
            refine q_aload_n B dX7_readsOrder_201 rfl rfl ?_
            refine q_iconst (v := nI 5) B dX7_readsOrder_202 rfl ?_
            refine q_rtV B (s_digits (m := 5) hm (hPO _) hlen hl8 g1 (by decide)) kv_yX7_digits ki_yX7_digits ks_yX7_digits km_X7_170 rfl (ci := 7) rfl rfl hm.1 (by decide) rfl (Nat.le_of_ble_eq_true rfl) dX7_readsOrder_203 ?_
            have g2 : (p_digs P len 5 a1 w1).2.1 ≤ len := p_digs_le (by decide) g1
            generalize hd : p_digs P len 5 a1 w1 = d at g2
            refine q_iastOO (n := 5 * n + 1) B (by omega) (mA_orders hm) (by simp only [nI_add, q_nI_mul]) (by omega) (by decide) dX7_readsOrder_206 ?_
            refine q_aload_n B dX7_readsOrder_207 rfl rfl ?_
            refine q_aload_n B dX7_readsOrder_208 rfl rfl ?_
            refine q_bipush (v := nI 94) B dX7_readsOrder_209 rfl ?_
            refine q_rtV B (s_takesSign (c := nI 94) hm (hPO _) hlen hl8 g2) kv_yX7_takesSign ki_yX7_takesSign ks_yX7_takesSign km_X7_167 rfl (ci := 7) rfl rfl hm.1 (by decide) rfl (Nat.le_of_ble_eq_true rfl) dX7_readsOrder_211 ?_
            have g3 : pN (p_T P len (nI 94) d.2.1 d.2.2) d.2.1 ≤ len := pN_lt g2 (fun q => (p_T_lt (by decide) q).1)
            generalize hb3 : p_T P len (nI 94) d.2.1 d.2.2 = b3 at g3
            refine q_putIo B kC_X7 (k := 10) (by decide) rfl kf_X7_153 rfl (b2_nar _) (b2_fit _) hm.1 (mp_p10 _ _ _ _) dX7_readsOrder_214 ?_
            refine q_aload_n B dX7_readsOrder_217 rfl rfl ?_
            refine q_getR B kC_X7 (k := 11) (by decide) rfl kf_X7_29 hm.1 (mR_orders hm) dX7_readsOrder_218 ?_
            refine q_iload_n B dX7_readsOrder_221 rfl rfl ?_
            refine q_iconst (v := nI 2) B dX7_readsOrder_222 rfl ?_
            refine q_iadd B dX7_readsOrder_223 ?_
            refine q_aload_n B dX7_readsOrder_224 rfl rfl ?_
            refine q_bipush (v := nI 9) B dX7_readsOrder_225 rfl ?_
            refine q_rtV B (s_digit (m := 9) hm (hPO _) hlen hl8 g3) kv_yX7_digit ki_yX7_digit ks_yX7_digit km_X7_161 rfl (ci := 7) rfl rfl hm.1 (by decide) rfl (Nat.le_of_ble_eq_true rfl) dX7_readsOrder_227 ?_
            refine q_iastOO (n := 5 * n + 2) B (by omega) (mA_orders hm) (by simp only [nI_add, q_nI_mul]) (by omega) (by decide) dX7_readsOrder_230 ?_
            refine q_goto (tgt := 291) B dX7_readsOrder_231 (by decide) ?_
            exact q_tk (j_291 _ _ _ (by first | (rw [hfin, if_pos c_93]; unfold p_plus; dsimp only; rw [hk2, hb3, hd]; dsimp only; rw [hb5, hm6, hb7, he]; done) | (rw [hfin, if_neg c_93, if_pos c_191]; unfold p_fix; dsimp only; rw [hd, hb3]; done) | (rw [hfin, if_neg c_93, if_neg c_191, if_pos c_237]; unfold p_drw; dsimp only; rw [hk2, hb3]; done) | (rw [hfin, if_neg c_93, if_neg c_191, if_neg c_237]; rfl; done))) rfl (q_ac rfl (q_ac rfl (q_ac rfl (q_ac rfl q_an))))
        · skip
          refine q_aload_n B dX7_readsOrder_96 rfl rfl ?_
          refine q_getR B kC_X7 (k := 11) (by decide) rfl kf_X7_29 hm.1 (mR_orders hm) dX7_readsOrder_97 ?_
          refine q_iload_n B dX7_readsOrder_100 rfl rfl ?_
          refine q_iconst (v := nI 1) B dX7_readsOrder_101 rfl ?_
          refine q_iadd B dX7_readsOrder_102 ?_
          refine q_aload_n B dX7_readsOrder_103 rfl rfl ?_
          refine q_iconst (v := nI 5) B dX7_readsOrder_104 rfl ?_
          refine q_rtV B (s_digit (m := 5) hm (hPO _) hlen hl8 g1) kv_yX7_digit ki_yX7_digit ks_yX7_digit km_X7_161 rfl (ci := 7) rfl rfl hm.1 (by decide) rfl (Nat.le_of_ble_eq_true rfl) dX7_readsOrder_105 ?_
          refine q_iastOO (n := 5 * n + 1) B (by omega) (mA_orders hm) (by simp only [nI_add, q_nI_mul]) (by omega) (by decide) dX7_readsOrder_108 ?_
          have g2 : pN (p_ok P len 5 a1 w1) a1 ≤ len := pN_lt g1 (fun q => (p_ok_lt (by decide) q).1)
          generalize hk2 : p_ok P len 5 a1 w1 = k2 at g2
          refine q_aload_n B dX7_readsOrder_109 rfl rfl ?_
          refine q_getR B kC_X7 (k := 11) (by decide) rfl kf_X7_29 hm.1 (mR_orders hm) dX7_readsOrder_110 ?_
          refine q_iload_n B dX7_readsOrder_113 rfl rfl ?_
          refine q_iconst (v := nI 2) B dX7_readsOrder_114 rfl ?_
          refine q_iadd B dX7_readsOrder_115 ?_
          refine q_aload_n B dX7_readsOrder_116 rfl rfl ?_
          refine q_bipush (v := nI 58) B dX7_readsOrder_117 rfl ?_
          refine q_rtV B (s_takesSign (c := nI 58) hm (hPO _) hlen hl8 g2) kv_yX7_takesSign ki_yX7_takesSign ks_yX7_takesSign km_X7_167 rfl (ci := 7) rfl rfl hm.1 (by decide) rfl (Nat.le_of_ble_eq_true rfl) dX7_readsOrder_119 ?_
          have g3 : pN (p_T P len (nI 58) (pN k2 a1) k2) (pN k2 a1) ≤ len := pN_lt g2 (fun q => (p_T_lt (by decide) q).1)
          generalize hb3 : p_T P len (nI 58) (pN k2 a1) k2 = b3 at g3
          have j_135 : ∀ (v2 : Int32) (x : Nat) (y : Bool), p_dg P len (pN b3 (pN k2 a1)) k2 b3 = (v2, x, y) → q_W Γ mX7_readsOrder 0 0 Sh (q_setA (q_setA I (o + 7) (upd O0 (5 * n + 1) (p_dv P len a1))) o (mp ob x y)) 135 [(0, .ref o), (1, .int (nI (5 * n))), (2, .int L), (3, .int (b2 (p_let L)))] [.int v2, .int (nI (5 * n) + nI 2), .ref (o + 7)] := by
            intro v2 x y hd
            have g4 : x ≤ len := by
              have : (p_dg P len (pN b3 (pN k2 a1)) k2 b3).2.1 ≤ len := by
                unfold p_dg
                split
                · exact p_digs_le (by decide) g3
                · exact g3
              rw [hd] at this
              exact this
            refine q_iastOO (n := 5 * n + 2) B (by omega) (mA_orders hm) (by simp only [nI_add, q_nI_mul]) (by omega) (by decide) dX7_readsOrder_135 ?_
            refine q_aload_n B dX7_readsOrder_136 rfl rfl ?_
            refine q_aload_n B dX7_readsOrder_137 rfl rfl ?_
            refine q_bipush (v := nI 33) B dX7_readsOrder_138 rfl ?_
            refine q_rtV B (s_takesSign (c := nI 33) hm (hPO _) hlen hl8 g4) kv_yX7_takesSign ki_yX7_takesSign ks_yX7_takesSign km_X7_167 rfl (ci := 7) rfl rfl hm.1 (by decide) rfl (Nat.le_of_ble_eq_true rfl) dX7_readsOrder_140 ?_
            have g5 : pN (p_T P len (nI 33) x y) x ≤ len := pN_lt g4 (fun q => (p_T_lt (by decide) q).1)
            generalize hb5 : p_T P len (nI 33) x y = b5 at g5
            refine q_putIo B kC_X7 (k := 10) (by decide) rfl kf_X7_153 rfl (b2_nar _) (b2_fit _) hm.1 (mp_p10 _ _ _ _) dX7_readsOrder_143 ?_
            refine q_aload_n B dX7_readsOrder_146 rfl rfl ?_
            refine q_getR B kC_X7 (k := 11) (by decide) rfl kf_X7_29 hm.1 (mR_orders hm) dX7_readsOrder_147 ?_
            refine q_iload_n B dX7_readsOrder_150 rfl rfl ?_
            refine q_iconst (v := nI 3) B dX7_readsOrder_151 rfl ?_
            refine q_iadd B dX7_readsOrder_152 ?_
            refine q_aload_n B dX7_readsOrder_153 rfl rfl ?_
            refine q_rtV B (s_number hm (hPO _) hlen hl8 g5) kv_yX7_number ki_yX7_number ks_yX7_number km_X7_173 rfl (ci := 7) rfl rfl hm.1 (by decide) rfl (Nat.le_of_ble_eq_true rfl) dX7_readsOrder_154 ?_
            have g6 : (p_num P len (pN b5 x) b5).2.1 ≤ len := p_num_le g5
            generalize hm6 : p_num P len (pN b5 x) b5 = m6 at g6
            refine q_iastOO (n := 5 * n + 3) B (by omega) (mA_orders hm) (by simp only [nI_add, q_nI_mul]) (by omega) (by decide) dX7_readsOrder_157 ?_
            refine q_aload_n B dX7_readsOrder_158 rfl rfl ?_
            refine q_getR B kC_X7 (k := 11) (by decide) rfl kf_X7_29 hm.1 (mR_orders hm) dX7_readsOrder_159 ?_
            refine q_iload_n B dX7_readsOrder_162 rfl rfl ?_
            refine q_iconst (v := nI 4) B dX7_readsOrder_163 rfl ?_
            refine q_iadd B dX7_readsOrder_164 ?_
            refine q_aload_n B dX7_readsOrder_165 rfl rfl ?_
            refine q_bipush (v := nI 63) B dX7_readsOrder_166 rfl ?_
            refine q_rtV B (s_takesSign (c := nI 63) hm (hPO _) hlen hl8 g6) kv_yX7_takesSign ki_yX7_takesSign ks_yX7_takesSign km_X7_167 rfl (ci := 7) rfl rfl hm.1 (by decide) rfl (Nat.le_of_ble_eq_true rfl) dX7_readsOrder_168 ?_
            have g7 : pN (p_T P len (nI 63) m6.2.1 m6.2.2) m6.2.1 ≤ len := pN_lt g6 (fun q => (p_T_lt (by decide) q).1)
            generalize hb7 : p_T P len (nI 63) m6.2.1 m6.2.2 = b7 at g7
            have j_184 : ∀ (v4 : Int32) (x8 : Nat) (y8 : Bool), p_tl P len (pN b7 m6.2.1) m6.2.2 b7 = (v4, x8, y8) → q_W Γ mX7_readsOrder 0 0 Sh (q_setA (q_setA I (o + 7) (upd (upd (upd O0 (5 * n + 1) (p_dv P len a1)) (5 * n + 2) v2) (5 * n + 3) m6.1)) o (mp ob x8 y8)) 184 [(0, .ref o), (1, .int (nI (5 * n))), (2, .int L), (3, .int (b2 (p_let L)))] [.int v4, .int (nI (5 * n) + nI 4), .ref (o + 7)] := by
              intro v4 x8 y8 he
              refine q_iastOO (n := 5 * n + 4) B (by omega) (mA_orders hm) (by simp only [nI_add, q_nI_mul]) (by omega) (by decide) dX7_readsOrder_184 ?_
              refine q_goto (tgt := 291) B dX7_readsOrder_185 (by decide) ?_
              exact q_tk (j_291 _ _ _ (by first | (rw [hfin, if_pos c_93]; unfold p_plus; dsimp only; rw [hk2, hb3, hd]; dsimp only; rw [hb5, hm6, hb7, he]; done) | (rw [hfin, if_neg c_93, if_pos c_191]; unfold p_fix; dsimp only; rw [hd, hb3]; done) | (rw [hfin, if_neg c_93, if_neg c_191, if_pos c_237]; unfold p_drw; dsimp only; rw [hk2, hb3]; done) | (rw [hfin, if_neg c_93, if_neg c_191, if_neg c_237]; rfl; done))) rfl (q_ac rfl (q_ac rfl (q_ac rfl (q_ac rfl q_an))))
            refine q_if_eq (tgt := 183) B dX7_readsOrder_171 (by decide) (fun c_171 => ?_) (fun c_171 => ?_)
            · skip
              refine q_iconst (v := 0) B dX7_readsOrder_183 rfl ?_
              exact q_tk (j_184 _ _ _ (by unfold p_tl; first | (rw [if_neg (by rw [b2_0 c_171]; decide)]; done) | (rw [if_pos (b2_1 c_171)]; done))) rfl (q_ac rfl (q_ac rfl (q_ac rfl (q_ac rfl q_an))))
            · skip
              refine q_aload_n B dX7_readsOrder_174 rfl rfl ?_
              refine q_bipush (v := nI 7) B dX7_readsOrder_175 rfl ?_
              refine q_rtV B (s_digit (m := 7) hm (hPO _) hlen hl8 g7) kv_yX7_digit ki_yX7_digit ks_yX7_digit km_X7_161 rfl (ci := 7) rfl rfl hm.1 (by decide) rfl (Nat.le_of_ble_eq_true rfl) dX7_readsOrder_177 ?_
              refine q_goto (tgt := 184) B dX7_readsOrder_180 (by decide) ?_
              exact q_tk (j_184 _ _ _ (by unfold p_tl; first | (rw [if_neg (by rw [b2_0 c_171]; decide)]; done) | (rw [if_pos (b2_1 c_171)]; done))) rfl (q_ac rfl (q_ac rfl (q_ac rfl (q_ac rfl q_an))))
          refine q_if_eq (tgt := 134) B dX7_readsOrder_122 (by decide) (fun c_122 => ?_) (fun c_122 => ?_)
          · skip
            refine q_iconst (v := 0) B dX7_readsOrder_134 rfl ?_
            exact q_tk (j_135 _ _ _ (by unfold p_dg; first | (rw [if_neg (by rw [b2_0 c_122]; decide)]; done) | (rw [if_pos (b2_1 c_122)]; done))) rfl (q_ac rfl (q_ac rfl (q_ac rfl (q_ac rfl q_an))))
          · skip
            refine q_aload_n B dX7_readsOrder_125 rfl rfl ?_
            refine q_bipush (v := nI 7) B dX7_readsOrder_126 rfl ?_
            refine q_rtV B (s_digits (m := 7) hm (hPO _) hlen hl8 g3 (by decide)) kv_yX7_digits ki_yX7_digits ks_yX7_digits km_X7_170 rfl (ci := 7) rfl rfl hm.1 (by decide) rfl (Nat.le_of_ble_eq_true rfl) dX7_readsOrder_128 ?_
            refine q_goto (tgt := 135) B dX7_readsOrder_131 (by decide) ?_
            exact q_tk (j_135 _ _ _ (by unfold p_dg; first | (rw [if_neg (by rw [b2_0 c_122]; decide)]; done) | (rw [if_pos (b2_1 c_122)]; done))) rfl (q_ac rfl (q_ac rfl (q_ac rfl (q_ac rfl q_an))))
      · skip
        refine q_aload_n B dX7_readsOrder_67 rfl rfl ?_
        refine q_getIo B kC_X7 (k := 10) (by decide) rfl kf_X7_153 hm.1 (mp_10 _ _ _) dX7_readsOrder_68 ?_
        refine q_if_eq (tgt := 78) B dX7_readsOrder_71 (by decide) (fun c_71 => ?_) (fun c_71 => ?_)
        · skip
          refine q_iconst (v := 0) B dX7_readsOrder_78 rfl ?_
          exact q_top (by first | (exact c_71.symm; done) | (rw [b2_1 c_71]; rfl; done)) j_67
        · skip
          refine q_iconst (v := 1) B dX7_readsOrder_74 rfl ?_
          refine q_goto (tgt := 79) B dX7_readsOrder_75 (by decide) ?_
          exact q_top (by first | (exact c_71.symm; done) | (rw [b2_1 c_71]; rfl; done)) j_67
    · skip
      refine q_aload_n B dX7_readsOrder_43 rfl rfl ?_
      refine q_getIo B kC_X7 (k := 10) (by decide) rfl kf_X7_153 hm.1 (mp_10 _ _ _) dX7_readsOrder_44 ?_
      refine q_if_eq (tgt := 58) B dX7_readsOrder_47 (by decide) (fun c_47 => ?_) (fun c_47 => ?_)
      · skip
        have hw47 := b2_0 c_47
        refine q_iconst (v := 0) B dX7_readsOrder_58 rfl ?_
        exact q_top (by first | (simp [hw47, b2]; done; done) | (simp [hw47, hw51, b2]; done; done)) j_43
      · skip
        have hw47 := b2_1 c_47
        refine q_iload_n B dX7_readsOrder_50 rfl rfl ?_
        refine q_if_eq (tgt := 58) B dX7_readsOrder_51 (by decide) (fun c_51 => ?_) (fun c_51 => ?_)
        · skip
          have hw51 := b2_0 c_51
          refine q_iconst (v := 0) B dX7_readsOrder_58 rfl ?_
          exact q_top (by first | (simp [hw47, b2]; done; done) | (simp [hw47, hw51, b2]; done; done)) j_43
        · skip
          have hw51 := b2_1 c_51
          refine q_iconst (v := 1) B dX7_readsOrder_54 rfl ?_
          refine q_goto (tgt := 59) B dX7_readsOrder_55 (by decide) ?_
          exact q_top (by first | (simp [hw47, b2]; done; done) | (simp [hw47, hw51, b2]; done; done)) j_43
  · skip
    refine q_iload_n B dX7_readsOrder_12 rfl rfl ?_
    refine q_bipush (v := nI 43) B dX7_readsOrder_13 rfl ?_
    refine q_icmp_eq (tgt := 36) B dX7_readsOrder_15 (by decide) (fun c_15 => ?_) (fun c_15 => ?_)
    · skip
      refine q_iconst (v := 1) B dX7_readsOrder_36 rfl ?_
      refine q_goto (tgt := 41) B dX7_readsOrder_37 (by decide) ?_
      exact q_top (by first | (simp [p_let, c_15, b2]; done; done) | (simp [p_let, c_15, c_21, b2]; done; done) | (simp [p_let, c_15, c_21, c_27, b2]; done; done) | (simp [p_let, c_15, c_21, c_27, c_33, b2]; done; done)) j_12
    · skip
      refine q_iload_n B dX7_readsOrder_18 rfl rfl ?_
      refine q_bipush (v := nI 102) B dX7_readsOrder_19 rfl ?_
      refine q_icmp_eq (tgt := 36) B dX7_readsOrder_21 (by decide) (fun c_21 => ?_) (fun c_21 => ?_)
      · skip
        refine q_iconst (v := 1) B dX7_readsOrder_36 rfl ?_
        refine q_goto (tgt := 41) B dX7_readsOrder_37 (by decide) ?_
        exact q_top (by first | (simp [p_let, c_15, b2]; done; done) | (simp [p_let, c_15, c_21, b2]; done; done) | (simp [p_let, c_15, c_21, c_27, b2]; done; done) | (simp [p_let, c_15, c_21, c_27, c_33, b2]; done; done)) j_12
      · skip
        refine q_iload_n B dX7_readsOrder_24 rfl rfl ?_
        refine q_bipush (v := nI 100) B dX7_readsOrder_25 rfl ?_
        refine q_icmp_eq (tgt := 36) B dX7_readsOrder_27 (by decide) (fun c_27 => ?_) (fun c_27 => ?_)
        · skip
          refine q_iconst (v := 1) B dX7_readsOrder_36 rfl ?_
          refine q_goto (tgt := 41) B dX7_readsOrder_37 (by decide) ?_
          exact q_top (by first | (simp [p_let, c_15, b2]; done; done) | (simp [p_let, c_15, c_21, b2]; done; done) | (simp [p_let, c_15, c_21, c_27, b2]; done; done) | (simp [p_let, c_15, c_21, c_27, c_33, b2]; done; done)) j_12
        · skip
          refine q_iload_n B dX7_readsOrder_30 rfl rfl ?_
          refine q_bipush (v := nI 116) B dX7_readsOrder_31 rfl ?_
          refine q_icmp_ne (tgt := 40) B dX7_readsOrder_33 (by decide) (fun c_33 => ?_) (fun c_33 => ?_)
          · skip
            refine q_iconst (v := 0) B dX7_readsOrder_40 rfl ?_
            exact q_top (by first | (simp [p_let, c_15, b2]; done; done) | (simp [p_let, c_15, c_21, b2]; done; done) | (simp [p_let, c_15, c_21, c_27, b2]; done; done) | (simp [p_let, c_15, c_21, c_27, c_33, b2]; done; done)) j_12
          · skip
            refine q_iconst (v := 1) B dX7_readsOrder_36 rfl ?_
            refine q_goto (tgt := 41) B dX7_readsOrder_37 (by decide) ?_
            exact q_top (by first | (simp [p_let, c_15, b2]; done; done) | (simp [p_let, c_15, c_21, b2]; done; done) | (simp [p_let, c_15, c_21, c_27, b2]; done; done) | (simp [p_let, c_15, c_21, c_27, c_33, b2]; done; done)) j_12
