/-! the law's own walk: as q_W, but the script lies outside the world, and the locals are a list by the places' addresses -/
abbrev l_Lf : Type := (Nat → Nat) → List (Nat × Value)
def l_W (Γ : q_Cx) (rc rs : Nat) (Sh : q_Sh) (I : q_Mem) (pc : Nat) (lf : l_Lf) (st : List Value) : Prop :=
  ∀ (ad : Nat → Nat) (H : Heap) (locs : List Loc) (cells slots : Nat) (ls : Array Slot),
    cells + rc ≤ (q_bud Γ).1 → slots + rs ≤ (q_bud Γ).2 →
    va_P (q_D Γ) vwCl (q_ws (q_cA Γ) ad Sh I) H → va_D (q_A Γ) (q_ws (q_cA Γ) ad Sh I) → va_S (q_A Γ) (q_s Γ).heap H locs →
    q_grow (q_n0 Γ) (q_ad0 Γ) Sh.1 ad → lv_has ls 4 (lf ad) →
    W (q_p Γ) (q_l Γ) (q_e Γ) (q_R Γ) (q_s Γ) (q_m Γ) (q_args Γ) (q_below Γ) (q_meth Γ) (q_c Γ) H locs cells slots (q_Q Γ) (F0 (q_m Γ) pc ls (st.map (q_cv ad)))
abbrev l_Y (nm : String) : q_Mth := (⟨RL, nm, "([I)Z"⟩, cL_law, 4, ret)
/-- the list speaks of places that are made alone -/
def l_ok (lf : l_Lf) (n : Nat) : Prop := ∀ ad ad' : Nat → Nat, (∀ l, l < n → ad' l = ad l) → lf ad' = lf ad
section LAWROWS
variable {Γ : q_Cx} {nm : String} {rc rs rc' rs' : Nat} {Sh : q_Sh} {I : q_Mem} {pc pc2 : Nat} {lf lf2 : l_Lf} {st st2 : List Value} {b L : Nat} {xs : Nat → Int32}
theorem l_less (h1 : rc' ≤ rc) (h2 : rs' ≤ rs) (k : l_W Γ rc' rs' Sh I pc lf st) : l_W Γ rc rs Sh I pc lf st := by
  intro ad H locs cells slots ls g1 g2 hP hD hS hn hl
  exact k ad H locs cells slots ls (by omega) (by omega) hP hD hS hn hl
/-- the stack alone changes -/
theorem l_of (f : ∀ (ad : Nat → Nat) (H : Heap) (locs : List Loc) (cells slots : Nat) (ls : Array Slot), W (q_p Γ) (q_l Γ) (q_e Γ) (q_R Γ) (q_s Γ) (q_m Γ) (q_args Γ) (q_below Γ) (q_meth Γ) (q_c Γ) H locs cells slots (q_Q Γ) (F0 (q_m Γ) pc2 ls (st2.map (q_cv ad))) → W (q_p Γ) (q_l Γ) (q_e Γ) (q_R Γ) (q_s Γ) (q_m Γ) (q_args Γ) (q_below Γ) (q_meth Γ) (q_c Γ) H locs cells slots (q_Q Γ) (F0 (q_m Γ) pc ls (st.map (q_cv ad))))
    (k : l_W Γ rc rs Sh I pc2 lf st2) : l_W Γ rc rs Sh I pc lf st := fun ad H locs cells slots ls h1 h2 hP hD hS hn hl => f ad H locs cells slots ls (k ad H locs cells slots ls h1 h2 hP hD hS hn hl)
theorem l_ref (B : q_Ok Γ (l_Y nm) 10) {j : Fin 4} {i x : Nat} (hd : decode cL_law pc = .ok (.aload_n j, 1)) (hi : (j : Nat) = i) (hx : ∀ ad, (i, Value.ref (ad x)) ∈ lf ad) (k : l_W Γ rc rs Sh I (pc + 1) lf (.ref x :: st)) : l_W Γ rc rs Sh I pc lf st := by
  intro ad H locs cells slots ls h1 h2 hP hD hS hn hl
  exact lv_aload_n B.1 B.2.1 hd hi (hl.2.2 _ (hx ad)) (k ad H locs cells slots ls h1 h2 hP hD hS hn hl)
theorem l_arg (B : q_Ok Γ (l_Y nm) 10) (hX : va_X b L xs (q_s Γ) (q_s Γ).heap ∧ b < (q_s Γ).heap.size ∧ ¬ q_A Γ b ∧ L < 2 ^ 31) {n : Int} {kx i : Nat} (h0 : ∀ ad, (0, Value.ref b) ∈ lf ad) (h3 : ∀ ad, (3, Value.int (nI i)) ∈ lf ad) (d0 : decode cL_law pc = .ok (.aload_n 0, 1)) (d1 : decode cL_law (pc + 1) = .ok (.iload_n 3, 1)) (d2 : decode cL_law (pc + 2) = .ok (.iconst n, 1)) (d3 : decode cL_law (pc + 3) = .ok (.iadd, 1)) (d4 : decode cL_law (pc + 4) = .ok (.iaload, 1)) (hn : Int32.ofInt n = nI kx) (hlt : i + kx < L)
    (k : l_W Γ rc rs Sh I (pc + 5) lf (.int (xs (i + kx)) :: st)) : l_W Γ rc rs Sh I pc lf st := by
  intro ad H locs cells slots ls h1 h2 hP hD hS hg hl
  refine lv_aload_n B.1 B.2.1 d0 rfl (hl.2.2 _ (h0 ad)) ?_
  refine lv_iload_n B.1 B.2.1 d1 rfl (hl.2.2 _ (h3 ad)) ?_
  refine lv_iconst B.1 B.2.1 d2 hn ?_
  refine lv_iadd B.1 B.2.1 d3 ?_
  rw [nI_add]
  refine va_sld B.1 B.2.1 hX.1 hX.2.1 hX.2.2.1 hS (vp_in_nI hlt hX.2.2.2) d4 ?_
  rw [nI_clamp (by have := hX.2.2.2; omega)]
  exact k ad H locs cells slots ls h1 h2 hP hD hS hg hl
theorem l_first (B : q_Ok Γ (l_Y nm) 10) (hX : va_X b L xs (q_s Γ) (q_s Γ).heap ∧ b < (q_s Γ).heap.size ∧ ¬ q_A Γ b ∧ L < 2 ^ 31) {i : Nat} (h0 : ∀ ad, (0, Value.ref b) ∈ lf ad) (h3 : ∀ ad, (3, Value.int (nI i)) ∈ lf ad) (d0 : decode cL_law pc = .ok (.aload_n 0, 1)) (d1 : decode cL_law (pc + 1) = .ok (.iload_n 3, 1)) (d4 : decode cL_law (pc + 2) = .ok (.iaload, 1)) (hlt : i < L)
    (k : l_W Γ rc rs Sh I (pc + 3) lf (.int (xs i) :: st)) : l_W Γ rc rs Sh I pc lf st := by
  intro ad H locs cells slots ls h1 h2 hP hD hS hg hl
  refine lv_aload_n B.1 B.2.1 d0 rfl (hl.2.2 _ (h0 ad)) ?_
  refine lv_iload_n B.1 B.2.1 d1 rfl (hl.2.2 _ (h3 ad)) ?_
  refine va_sld B.1 B.2.1 hX.1 hX.2.1 hX.2.2.1 hS (vp_in_nI hlt hX.2.2.2) d4 ?_
  rw [nI_clamp (by have := hX.2.2.2; omega)]
  exact k ad H locs cells slots ls h1 h2 hP hD hS hg hl
theorem l_len (B : q_Ok Γ (l_Y nm) 10) (hX : va_X b L xs (q_s Γ) (q_s Γ).heap ∧ b < (q_s Γ).heap.size ∧ ¬ q_A Γ b ∧ L < 2 ^ 31) (h0 : ∀ ad, (0, Value.ref b) ∈ lf ad) (d0 : decode cL_law pc = .ok (.aload_n 0, 1)) (d1 : decode cL_law (pc + 1) = .ok (.arraylength, 1)) (k : l_W Γ rc rs Sh I (pc + 2) lf (.int (nI L) :: st)) : l_W Γ rc rs Sh I pc lf st := by
  intro ad H locs cells slots ls h1 h2 hP hD hS hg hl
  refine lv_aload_n B.1 B.2.1 d0 rfl (hl.2.2 _ (h0 ad)) ?_
  refine va_slen B.1 B.2.1 hX.1 hX.2.1 hX.2.2.1 hS d1 ?_
  exact k ad H locs cells slots ls h1 h2 hP hD hS hg hl
theorem l_iload_n (B : q_Ok Γ (l_Y nm) 10) {j : Fin 4} {i : Nat} {x : Int32} (hd : decode cL_law pc = .ok (.iload_n j, 1)) (hi : (j : Nat) = i) (hx : ∀ ad, (i, Value.int x) ∈ lf ad) (k : l_W Γ rc rs Sh I (pc + 1) lf (.int x :: st)) : l_W Γ rc rs Sh I pc lf st := by
  intro ad H locs cells slots ls h1 h2 hP hD hS hn hl
  exact lv_iload_n B.1 B.2.1 hd hi (hl.2.2 _ (hx ad)) (k ad H locs cells slots ls h1 h2 hP hD hS hn hl)
theorem l_iconst (B : q_Ok Γ (l_Y nm) 10) {n : Int} {v : Int32} (hd : decode cL_law pc = .ok (.iconst n, 1)) (hv : Int32.ofInt n = v) (k : l_W Γ rc rs Sh I (pc + 1) lf (.int v :: st)) : l_W Γ rc rs Sh I pc lf st := l_of (fun _ _ _ _ _ _ k => lv_iconst B.1 B.2.1 hd hv k) k
theorem l_bipush (B : q_Ok Γ (l_Y nm) 10) {n : Int} {v : Int32} (hd : decode cL_law pc = .ok (.bipush n, 2)) (hv : (Int8.ofInt n).toInt32 = v) (k : l_W Γ rc rs Sh I (pc + 2) lf (.int v :: st)) : l_W Γ rc rs Sh I pc lf st := l_of (fun _ _ _ _ _ _ k => lv_bipush B.1 B.2.1 hd hv k) k
theorem l_isub (B : q_Ok Γ (l_Y nm) 10) {x y : Int32} (hd : decode cL_law pc = .ok (.isub, 1)) (k : l_W Γ rc rs Sh I (pc + 1) lf (.int (x - y) :: st)) : l_W Γ rc rs Sh I pc lf (.int y :: .int x :: st) := l_of (fun _ _ _ _ _ _ k => lv_isub B.1 B.2.1 hd k) k
theorem l_iand (B : q_Ok Γ (l_Y nm) 10) {x y : Int32} (hd : decode cL_law pc = .ok (.iand, 1)) (k : l_W Γ rc rs Sh I (pc + 1) lf (.int (x &&& y) :: st)) : l_W Γ rc rs Sh I pc lf (.int y :: .int x :: st) := l_of (fun _ _ _ _ _ _ k => lv_iand B.1 B.2.1 hd k) k
theorem l_i2l (B : q_Ok Γ (l_Y nm) 10) {x : Int32} (hd : decode cL_law pc = .ok (.i2l, 1)) (k : l_W Γ rc rs Sh I (pc + 1) lf (.long x.toInt64 :: st)) : l_W Γ rc rs Sh I pc lf (.int x :: st) := l_of (fun _ _ _ _ _ _ k => lv_i2l B.1 B.2.1 hd rfl k) k
theorem l_lshl (B : q_Ok Γ (l_Y nm) 10) {x : Int64} {y : Int32} (hd : decode cL_law pc = .ok (.lshl, 1)) (k : l_W Γ rc rs Sh I (pc + 1) lf (.long (x <<< (y.toInt64 &&& 63)) :: st)) : l_W Γ rc rs Sh I pc lf (.int y :: .long x :: st) := l_of (fun _ _ _ _ _ _ k => lv_lshl B.1 B.2.1 hd rfl k) k
theorem l_land (B : q_Ok Γ (l_Y nm) 10) {x y : Int64} (hd : decode cL_law pc = .ok (.land, 1)) (k : l_W Γ rc rs Sh I (pc + 1) lf (.long (x &&& y) :: st)) : l_W Γ rc rs Sh I pc lf (.long y :: .long x :: st) := l_of (fun _ _ _ _ _ _ k => lv_land B.1 B.2.1 hd k) k
theorem l_lor (B : q_Ok Γ (l_Y nm) 10) {x y : Int64} (hd : decode cL_law pc = .ok (.lor, 1)) (k : l_W Γ rc rs Sh I (pc + 1) lf (.long (x ||| y) :: st)) : l_W Γ rc rs Sh I pc lf (.long y :: .long x :: st) := l_of (fun _ _ _ _ _ _ k => lv_lor B.1 B.2.1 hd k) k
theorem l_ldc2 (B : q_Ok Γ (l_Y nm) 10) {i : Nat} {v : Int64} (hl : Cond.constantLong RL i v ∈ q_WS) (hd : decode cL_law pc = .ok (.ldc2_w i, 3)) (k : l_W Γ rc rs Sh I (pc + 3) lf (.long v :: st)) : l_W Γ rc rs Sh I pc lf st := l_of (fun _ _ _ _ _ _ k => lv_ldc2 B.1 B.2.1 B.2.2.2.1 (B.2.2.2.2.1 _ hl) hd k) k
theorem l_dup (B : q_Ok Γ (l_Y nm) 10) {va : Value} (hd : decode cL_law pc = .ok (.dup, 1)) (hv : va.category = 1) (k : l_W Γ rc rs Sh I (pc + 1) lf (va :: va :: st)) : l_W Γ rc rs Sh I pc lf (va :: st) := l_of (fun ad _ _ _ _ _ k => lv_dup B.1 B.2.1 hd ((q_cat ad va).trans hv) k) k
theorem l_goto (B : q_Ok Γ (l_Y nm) 10) {off : Int} {tgt : Nat} (hd : decode cL_law pc = .ok (.goto off, 3)) (ht : (pc : Int) + off = (tgt : Int)) (k : l_W Γ rc rs Sh I tgt lf st) : l_W Γ rc rs Sh I pc lf st := l_of (fun _ _ _ _ _ _ k => lv_goto B.1 B.2.1 hd ht k) k
theorem l_icmp_eq (B : q_Ok Γ (l_Y nm) 10) {x : Int32} {off : Int} {tgt : Nat} (hd : decode cL_law pc = .ok (.if_icmp .eq off, 3)) (ht : (pc : Int) + off = (tgt : Int)) (k : l_W Γ rc rs Sh I tgt lf st) : l_W Γ rc rs Sh I pc lf (.int x :: .int x :: st) := l_of (fun _ _ _ _ _ _ k => lv_icmp_eq B.1 B.2.1 hd ht (fun _ => k) (fun q => absurd rfl q)) k
theorem l_icmp_gt (B : q_Ok Γ (l_Y nm) 10) {x y : Int32} {off : Int} {tgt : Nat} (hd : decode cL_law pc = .ok (.if_icmp .gt off, 3)) (ht : (pc : Int) + off = (tgt : Int)) (kt : y < x → l_W Γ rc rs Sh I tgt lf st) (kf : ¬ y < x → l_W Γ rc rs Sh I (pc + 3) lf st) : l_W Γ rc rs Sh I pc lf (.int y :: .int x :: st) := by
  intro ad H locs cells slots ls h1 h2 hP hD hS hn hl
  exact lv_icmp_gt B.1 B.2.1 hd ht (fun q => kt q ad H locs cells slots ls h1 h2 hP hD hS hn hl) (fun q => kf q ad H locs cells slots ls h1 h2 hP hD hS hn hl)
theorem l_tableIn (B : q_Ok Γ (l_Y nm) 10) {dflt lo hi : Int} {offs : Array Int} {len : Nat} {x : Int32} {off : Int} {tgt : Nat} (hd : decode cL_law pc = .ok (.tableswitch dflt lo hi offs, len)) (g1 : ¬ x.toInt < lo) (g2 : ¬ hi < x.toInt) (ho : offs[(x.toInt - lo).toNat]? = some off) (ht : (pc : Int) + off = (tgt : Int)) (k : l_W Γ rc rs Sh I tgt lf st) : l_W Γ rc rs Sh I pc lf (.int x :: st) := l_of (fun _ _ _ _ _ _ k => lv_tableIn B.1 B.2.1 hd g1 g2 ho ht k) k
theorem l_tableOut (B : q_Ok Γ (l_Y nm) 10) {dflt lo hi : Int} {offs : Array Int} {len : Nat} {x : Int32} {tgt : Nat} (hd : decode cL_law pc = .ok (.tableswitch dflt lo hi offs, len)) (g : x.toInt < lo ∨ hi < x.toInt) (ht : (pc : Int) + dflt = (tgt : Int)) (k : l_W Γ rc rs Sh I tgt lf st) : l_W Γ rc rs Sh I pc lf (.int x :: st) := l_of (fun _ _ _ _ _ _ k => lv_tableOut B.1 B.2.1 hd g ht k) k
theorem l_astore_n (B : q_Ok Γ (l_Y nm) 10) {j : Fin 4} {i x : Nat} (hd : decode cL_law pc = .ok (.astore_n j, 1)) (hi : (j : Nat) = i) (hn : i < 4) (hf : ∀ ad, (i, Value.ref (ad x)) :: (lf ad).filter (fun q => !(q.1 == i) && !(q.1 + 1 == i && q.2.category == 2)) = lf2 ad) (k : l_W Γ rc rs Sh I (pc + 1) lf2 st) : l_W Γ rc rs Sh I pc lf (.ref x :: st) := by
  intro ad H locs cells slots ls h1 h2 hP hD hS hg hl
  exact lv_astore_n B.1 B.2.1 hd hi hl hn (hf ad) (fun ls2 hl2 => k ad H locs cells slots ls2 h1 h2 hP hD hS hg hl2)
theorem l_istore_n (B : q_Ok Γ (l_Y nm) 10) {j : Fin 4} {i : Nat} {x : Int32} (hd : decode cL_law pc = .ok (.istore_n j, 1)) (hi : (j : Nat) = i) (hn : i < 4) (hf : ∀ ad, (i, Value.int x) :: (lf ad).filter (fun q => !(q.1 == i) && !(q.1 + 1 == i && q.2.category == 2)) = lf2 ad) (k : l_W Γ rc rs Sh I (pc + 1) lf2 st) : l_W Γ rc rs Sh I pc lf (.int x :: st) := by
  intro ad H locs cells slots ls h1 h2 hP hD hS hg hl
  exact lv_istore_n B.1 B.2.1 hd hi hl hn (hf ad) (fun ls2 hl2 => k ad H locs cells slots ls2 h1 h2 hP hD hS hg hl2)
theorem l_iinc (B : q_Ok Γ (l_Y nm) 10) {i q : Nat} {n : Int} {x v : Int32} (hd : decode cL_law pc = .ok (.iinc i n, 3)) (hk : ∀ ad, (lf ad)[q]? = some (i, .int x)) (hv : x + Int32.ofInt n = v) (hn : i < 4) (hf : ∀ ad, (i, Value.int v) :: (lf ad).filter (fun q => !(q.1 == i) && !(q.1 + 1 == i && q.2.category == 2)) = lf2 ad) (k : l_W Γ rc rs Sh I (pc + 3) lf2 st) : l_W Γ rc rs Sh I pc lf st := by
  intro ad H locs cells slots ls h1 h2 hP hD hS hg hl
  exact lv_iinc B.1 B.2.1 hd hl (hk ad) hv hn (hf ad) (fun ls2 hl2 => k ad H locs cells slots ls2 h1 h2 hP hD hS hg hl2)
theorem l_new (B : q_Ok Γ (l_Y nm) 10) {C : String} {T : u_T} {N ci i : Nat} (hC : q_Cl ci C T N) (hcl : Cond.classLink RL i C ∈ q_WS) (hins : Cond.instantiable C N ∈ q_WS) (hini : Cond.initialized C ∈ q_WS) (hdf : ∀ j, j < N → defaultValue (q_ty ci j) = if q_isR (q_ty ci j) = true then .null else .int 0)
    (hf : ∀ l j, l < Sh.1 → Sh.2.2 l j ≠ some Sh.1) (ho : l_ok lf Sh.1 ∧ ∀ v ∈ st, q_old Sh.1 v) (hd : decode cL_law pc = .ok (.new i, 3))
    (kk : l_W Γ rc rs (q_nS Sh (.inl ci)) (q_nI I Sh.1) (pc + 3) lf (.ref Sh.1 :: st)) : l_W Γ (rc + 1) (rs + N) Sh I pc lf st := by
  intro ad H locs cells slots ls h1 h2 hP hD hS hg hls
  have hts := B.2.2.2.2.1
  have hb := B.2.2.2.2.2.2.2.2.2.1
  refine va_new (fs := (List.range N).map (fun j => if q_isR (q_ty ci j) = true then Value.null else .int 0)) B.1 B.2.1 hts hC.2.1 (q_ty ci) hC.2.2.1 B.2.2.2.1 (hts _ hcl) (hts _ hins) (hts _ hini) B.2.2.2.2.2.2.1 hP hD hS B.2.2.2.2.2.2.2.1 hC.1 (fun j hj => by rw [hdf j hj]; simp [vp_V, hj]) (by omega) (by omega) hd (fun a H1 hP1 hD1 hS1 => ?_)
  have e : q_ws (q_cA Γ) (fun x => if x = Sh.1 then a else ad x) (q_nS Sh (.inl ci)) (q_nI I Sh.1) = q_ws (q_cA Γ) ad Sh I ++ [(a, .inr (ci, (List.range N).map (fun j => if q_isR (q_ty ci j) = true then Value.null else .int 0)))] := by
    have e0 : q_E (q_cA Γ) (fun x => if x = Sh.1 then a else ad x) (q_nS Sh (.inl ci)).2.1 (q_nS Sh (.inl ci)).2.2 (q_nI I Sh.1) Sh.1 = .inr (ci, (List.range N).map (fun j => if q_isR (q_ty ci j) = true then Value.null else .int 0)) := by
      rw [q_E_obj (ci := ci) (by simp [q_nS]), hC.2.2.2.2]
      refine congrArg (fun z => Sum.inr (ci, z)) (List.map_congr_left fun j _ => ?_)
      simp [q_fv, q_nS, q_nI, va_rf]
    rw [q_ws_new hf, e0]
  rw [← e] at hP1 hD1
  have k2 := kk (fun x => if x = Sh.1 then a else ad x) H1 locs (cells + 1) (slots + N) ls (by omega) (by omega) hP1 hD1 hS1 (q_grow_new hg) (by rw [ho.1 ad _ (fun l hl => if_neg (by omega))]; exact hls)
  rw [List.map_cons, ← q_new_st ho.2] at k2
  simp only [q_cv, if_true] at k2
  exact k2
theorem l_run (B : q_Ok Γ (l_Y nm) 10) {ad : Nat → Nat} {H : Heap} {locs : List Loc} {cells slots mc ms : Nat} {ls : Array Slot} {st0 : List Value} {K : Option Value → q_Sh → q_Mem → Prop} {a : Array Value}
    (hr : va_Run (q_p Γ) (q_l Γ) (q_e Γ) (q_R Γ) (q_s Γ) (q_m Γ) (q_args Γ) (q_below Γ) (q_meth Γ) (q_c Γ) H locs cells slots mc ms (F0 (q_m Γ) pc ls st0) (st.map (q_cv ad)) (q_Qc (q_D Γ) (q_cA Γ) Sh.1 ad K (va_A (q_ws (q_cA Γ) ad Sh I) H.size) a) (va_A (q_ws (q_cA Γ) ad Sh I) H.size))
    (h1 : cells + (rc + mc) ≤ (q_bud Γ).1) (h2 : slots + (rs + ms) ≤ (q_bud Γ).2) (hP : va_P (q_D Γ) vwCl (q_ws (q_cA Γ) ad Sh I) H) (hD : va_D (q_A Γ) (q_ws (q_cA Γ) ad Sh I)) (hS : va_S (q_A Γ) (q_s Γ).heap H locs) (hn : q_grow (q_n0 Γ) (q_ad0 Γ) Sh.1 ad) (hls : lv_has ls 4 (lf ad)) (ho : l_ok lf Sh.1 ∧ ∀ v ∈ st, q_old Sh.1 v)
    (kk : ∀ v Sh' I', K v Sh' I' → l_W Γ rc rs Sh' I' (pc + 3) lf (v.toList ++ st)) : W (q_p Γ) (q_l Γ) (q_e Γ) (q_R Γ) (q_s Γ) (q_m Γ) (q_args Γ) (q_below Γ) (q_meth Γ) (q_c Γ) H locs cells slots (q_Q Γ) (F0 (q_m Γ) pc ls st0) := by
  have hF : ∀ q, va_A (q_ws (q_cA Γ) ad Sh I) H.size q → q_A Γ q := by
    intro q hq
    rcases hq with ⟨k, e, h⟩ | h
    · exact hD.2 k _ h
    · exact B.2.2.2.2.2.2.2.1 q (Nat.le_trans hS.1 h)
  intro T hT X
  obtain ⟨v, st₀, t, T', LL, h0, X', hL, e1, e2, ⟨⟨v', Sh', I', ad', g1, g2, g3, g4, g5⟩, hz, hk⟩, stp⟩ := hr T hT X
  have ev : v = v'.map (q_cv ad') := by cases g1; rfl
  subst ev
  rw [h0] at hz hk
  have kw := kk _ _ _ g2
  have m1 : lf ad' = lf ad := ho.1 ad ad' g3.2.1
  have m2 : st.map (q_cv ad) = st.map (q_cv ad') := List.map_congr_left fun q hq => by rw [q_cv_old g3.2.1 (ho.2 q hq)]
  rw [← m1] at hls
  have hS1 : va_S (q_A Γ) (q_s Γ).heap T'.heap (locs ++ LL) := by
    refine ⟨Nat.le_trans hS.1 (by rw [e1]; exact hz), fun q a1 a2 => ?_, fun q hq => ?_⟩
    · rw [e1, hk q (Nat.lt_of_lt_of_le a1 hS.1) (fun z => a2 (hF q z))]
      exact hS.2.1 q a1 a2
    · rcases List.mem_append.mp hq with h | h
      · exact hS.2.2 q h
      · exact hF _ (hL q h)
  have w := kw ad' T'.heap (locs ++ LL) (cells + mc) (slots + ms) ls (by omega) (by omega) (by rw [e1]; exact g4) (g5.weaken (fun k q _ h => hF q.1 h)) hS1 (q_grow_tr hn g3) hls
  obtain ⟨t2, a1, b1⟩ := w T' rfl X'
  refine ⟨t2, stp t2 ?_, b1⟩
  have e3 : (v'.map (q_cv ad')).toList ++ st.map (q_cv ad) = (v'.toList ++ st).map (q_cv ad') := by
    rw [m2, List.map_append]
    cases v' <;> rfl
  show Steps _ _ _ (T'.setTop (F0 (q_m Γ) (pc + 3) ls ((v'.map (q_cv ad')).toList ++ st.map (q_cv ad)))) t2
  rw [e3]
  exact a1
theorem l_callV (B : q_Ok Γ (l_Y nm) 10) {Y' : q_Mth} {d' mc ms n i ci x : Nat} {As stk : List Value} {q : vw_C} {K : Option Value → q_Sh → q_Mem → Prop} (hM : q_Call Y' d' mc ms (.ref x :: As) Sh I K) (hV : q_Vm Y' n) (hin : Cond.instanceMethod Y'.1 ∈ q_WS) (hse : Cond.selects Y'.1.cls Y'.1 Y'.1 ∈ q_WS) (hl : Cond.methodLink RL i Y'.1 ∈ q_WS) (hn : As.length = n) (hc : vwCl[ci]? = some q) (hq : q.1 = Y'.1.cls) (hb : q_is Sh x ci) (hdd : d' + 1 ≤ 10)
    (hst : stk = As.reverse ++ .ref x :: st) (hsum : (st.map fun v => v.category).sum ≤ 8) (ho : l_ok lf Sh.1 ∧ ∀ v ∈ st, q_old Sh.1 v) (hd : decode cL_law pc = .ok (.invokevirtual i, 3)) (kk : ∀ v Sh' I', K v Sh' I' → l_W Γ rc rs Sh' I' (pc + 3) lf (v.toList ++ st)) : l_W Γ (rc + mc) (rs + ms) Sh I pc lf stk := by
  subst hst
  intro ad H locs cells slots ls h1 h2 hP hD hS hg hls
  have hts := B.2.2.2.2.1
  have he := q_ws_at (cA := q_cA Γ) (ad := ad) (I := I) hb.1
  rw [q_E_obj hb.2] at he
  have hrv := va_recv B.2.2.2.2.2.2.1 hP hc he
  rw [hq] at hrv
  have e : (As.reverse ++ Value.ref x :: st).map (q_cv ad) = (As.map (q_cv ad)).reverse ++ .ref (ad x) :: st.map (q_cv ad) := by
    rw [List.map_append, List.map_reverse]; rfl
  rw [e]
  have hgd := q_goodY hV.1
  refine l_run B (va_runV (As := As.map (q_cv ad)) ⟨B.1, B.2.1, B.2.2.1, B.2.2.2.1, hts⟩ (hM (q_l Γ) (q_D Γ) (q_cA Γ) ad H.size) ⟨callB_of n hts hgd rfl rfl rfl (hts _ hV.2.1) (hts _ hl) hV.2.2.1 (q_fit B hdd hV.2.2.2), hts _ hin, hts _ hse⟩ ⟨q_blind, hrv, q_pre B hP hD⟩ rfl (by rw [List.length_map]; exact hn) hls.1 rfl (lv_room (by rw [q_wsum]; exact hsum)) hd ⟨?_, ?_⟩) h1 h2 hP hD hS hg hls ho kk
  · have := B.2.2.2.2.2.2.2.2.2.1.1
    omega
  · have := B.2.2.2.2.2.2.2.2.2.1.2
    omega
theorem l_callI (B : q_Ok Γ (l_Y nm) 10) {Y' : q_Mth} {d' mc ms n i x : Nat} {As : List Value} {K : Option Value → q_Sh → q_Mem → Prop} (hM : q_Call Y' d' mc ms (.ref x :: As) Sh I K) (hV : q_Vm Y' n) (hin : Cond.instanceMethod Y'.1 ∈ q_WS) (hnm : Y'.1.name = "<init>") (hrt : Y'.2.2.2 = none) (hl : Cond.methodLink RL i Y'.1 ∈ q_WS) (hn : As.length = n) (hdd : d' + 1 ≤ 10)
    (hsum : (st.map fun v => v.category).sum ≤ 8) (ho : l_ok lf Sh.1 ∧ ∀ v ∈ st, q_old Sh.1 v) (hd : decode cL_law pc = .ok (.invokespecial i, 3)) (kk : ∀ v Sh' I', K v Sh' I' → l_W Γ rc rs Sh' I' (pc + 3) lf (v.toList ++ st)) : l_W Γ (rc + mc) (rs + ms) Sh I pc lf (As.reverse ++ .ref x :: st) := by
  intro ad H locs cells slots ls h1 h2 hP hD hS hg hls
  have hts := B.2.2.2.2.1
  have e : (As.reverse ++ Value.ref x :: st).map (q_cv ad) = (As.map (q_cv ad)).reverse ++ .ref (ad x) :: st.map (q_cv ad) := by
    rw [List.map_append, List.map_reverse]; rfl
  rw [e]
  have hgd := q_goodY hV.1
  have hcb := callB_of (R := q_R Γ) (s := q_s Γ) (args := q_args Γ) (rm := q_rm d' mc ms) n hts hgd rfl rfl rfl (hts _ hV.2.1) (hts _ hl) hV.2.2.1 (q_fit B hdd hV.2.2.2)
  rw [hrt] at hcb
  refine l_run B (va_runI (As := As.map (q_cv ad)) ⟨B.1, B.2.1, B.2.2.1, B.2.2.2.1, hts⟩ (hM (q_l Γ) (q_D Γ) (q_cA Γ) ad H.size) ⟨hcb, hnm, hts _ hin⟩ ⟨q_blind, q_pre B hP hD⟩ rfl (by rw [List.length_map]; exact hn) hls.1 rfl (lv_room (by rw [q_wsum]; exact hsum)) hd ⟨?_, ?_⟩) h1 h2 hP hD hS hg hls ho kk
  · have := B.2.2.2.2.2.2.2.2.2.1.1
    omega
  · have := B.2.2.2.2.2.2.2.2.2.1.2
    omega
end LAWROWS
