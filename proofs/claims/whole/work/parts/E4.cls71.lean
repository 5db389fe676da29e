/-! ===== the law's calls ===== -/
abbrev mLw (nm : String) : zM := (⟨RL, nm, ""⟩, cL_law, 7, some .boolean)
abbrev zLc (i : Nat) : List (Option Value) := [none, some (.ref 0), some (.ref 67), some (.ref 106), some (.int (nI i)), none, none]
abbrev zLv (i : Nat) (v w : Option Value) : List (Option Value) := [none, some (.ref 0), some (.ref 67), some (.ref 106), some (.int (nI i)), v, w]
def zEv (l : Launch) (Z : zZ) : Prop := zSt l Z ∧ zOps Z ∧ zXs Z ∧ zNs Z ∧ zSs Z
theorem lg_cmp_s (a : Int64) : lg_cmp a a = 0 := by
  unfold lg_cmp
  simp
section ZQ
variable {b0 : Nat} {l : Launch} {Z : zZ} {nm : String} {τ : zT} {kk mc ms : Nat} {F : State → Prop} {pc : Nat} {L : List (Option Value)} {st : List Value} {μ : zMem} {σ : zS2} {π : zP2} {g : zG2} {c k : Nat}
theorem Q_ne0 {M : zM} (hT : zCx τ M kk mc ms) {x : Int32} (d0 : decode M.2.1 pc = .ok (.ifCond .eq 7, 3)) (d3 : decode M.2.1 (pc + 3) = .ok (.iconst 1, 1)) (d4 : decode M.2.1 (pc + 3 + 1) = .ok (.goto 4, 3)) (d7 : decode M.2.1 (pc + 7) = .ok (.iconst 0, 1)) (h : zJL b0 τ F (pc + 8) L (.int (if x = 0 then 0 else 1) :: st) μ c k) : zJL b0 τ F pc L (.int x :: st) μ c k := by
  refine Q_if_eq (tgt := pc + 7) hT d0 (by omega) (fun q => ?_) (fun q => ?_)
  · rw [if_pos q] at h
    exact Q_iconst (v := 0) hT d7 rfl h
  · rw [if_neg q] at h
    refine Q_iconst (v := 1) hT d3 rfl ?_
    exact Q_goto (tgt := pc + 8) hT d4 (by omega) h
theorem Q_bl {M : zM} (hT : zCx τ M kk mc ms) {x : Int32} (d0 : decode M.2.1 pc = .ok (.ifCond .eq 7, 3)) (d3 : decode M.2.1 (pc + 3) = .ok (.lconst 1, 1)) (d4 : decode M.2.1 (pc + 3 + 1) = .ok (.goto 4, 3)) (d7 : decode M.2.1 (pc + 7) = .ok (.lconst 0, 1)) (h : zJL b0 τ F (pc + 8) L (.long (vL true x) :: st) μ c k) : zJL b0 τ F pc L (.int x :: st) μ c k := by
  refine Q_if_eq (tgt := pc + 7) hT d0 (by omega) (fun q => ?_) (fun q => ?_)
  · have e : vL true x = 0 := if_pos q
    rw [e] at h
    exact Q_lconst (v := 0) hT d7 rfl h
  · have e : vL true x = 1 := if_neg q
    rw [e] at h
    refine Q_lconst (v := 1) hT d3 rfl ?_
    exact Q_goto (tgt := pc + 8) hT d4 (by omega) h
theorem Q_thr (hY : zCy l Z τ (mLw nm) kk mc ms) (hZ : zSt l Z) {T i : Nat} {kind x : Int32} (d0 : decode cL_law T = .ok (.aload_n 2, 1)) (d1 : decode cL_law (T + 1) = .ok (.invokevirtual 104, 3)) (d2 : decode cL_law (T + 1 + 3) = .ok (.iload 5, 2)) (d3 : decode cL_law (T + 1 + 3 + 2) = .ok (.if_icmp .eq 5, 3)) (d4 : decode cL_law (T + 11) = .ok (.iload 5, 2))
    (hR : zRef μ π) (e45 : σ 67 45 = kind) (hkk : 0 < kk) (hc : c ≤ mc) (hk : k ≤ ms) (h : zJL b0 τ F (T + 11 + 2) (zLv i (some (.int kind)) (some (.int x))) [.int kind] (zA4 μ σ π g) c k) : zJL b0 τ F T (zLv i (some (.int kind)) (some (.int x))) [] (zA4 μ σ π g) c k := by
  have hT := hY.1
  refine Q_aload_n (i := 2) hT d0 rfl rfl ?_
  refine Q_callV (ci := 9) hY d1 mfX9_thrown miX9_thrown msX9_thrown kL_104 ⟨by decide, rfl⟩ hR.1 (c_X9_thrown hZ hR) rfl hkk rfl rfl (Nat.le_of_ble_eq_true rfl) hc hk (fun r μ1 hq => ?_)
  obtain ⟨rfl, rfl⟩ := hq
  show zJL _ _ _ _ _ [.int _] _ _ _
  refine Q_iload hT d2 rfl ?_
  refine Q_icmp_eq (tgt := T + 11) hT d3 (by omega) (fun _ => ?_) (fun q => absurd e45 q)
  exact Q_iload hT d4 rfl h
theorem Q_tl (hY : zCy l Z τ (mLw nm) kk mc ms) (hZ : zSt l Z) {T E i : Nat} {off : Int} {kind x : Int32} (d0 : decode cL_law T = .ok (.aload_n 2, 1)) (d1 : decode cL_law (T + 1) = .ok (.invokevirtual 104, 3)) (d2 : decode cL_law (T + 1 + 3) = .ok (.iload 5, 2)) (d3 : decode cL_law (T + 1 + 3 + 2) = .ok (.if_icmp .eq 5, 3)) (d4 : decode cL_law (T + 11) = .ok (.iload 5, 2))
    (d5 : decode cL_law (T + 11 + 2) = .ok (.ifCond .ne 15, 3)) (d6 : decode cL_law (T + 11 + 2 + 3) = .ok (.aload_n 3, 1)) (d7 : decode cL_law (T + 11 + 2 + 3 + 1) = .ok (.iconst 0, 1)) (d8 : decode cL_law (T + 11 + 2 + 3 + 1 + 1) = .ok (.laload, 1)) (d9 : decode cL_law (T + 11 + 2 + 3 + 1 + 1 + 1) = .ok (.iload 6, 2)) (d10 : decode cL_law (T + 11 + 2 + 3 + 1 + 1 + 1 + 2) = .ok (.i2l, 1)) (d11 : decode cL_law (T + 11 + 2 + 3 + 1 + 1 + 1 + 2 + 1) = .ok (.lcmp, 1)) (d12 : decode cL_law (T + 11 + 2 + 3 + 1 + 1 + 1 + 2 + 1 + 1) = .ok (.ifCond .eq 5, 3)) (d13 : decode cL_law (T + 28) = .ok (.goto off, 3)) (hE : ((T + 28 : Nat) : Int) + off = (E : Int))
    (hR : zRef μ π) (e45 : σ 67 45 = kind) (e0 : kind = 0 → g 106 0 = vL false x) (h6 : zK μ 106 = 3 ∧ zL μ 106 = 1) (hkk : 0 < kk) (hc : c ≤ mc) (hk : k ≤ ms) (h : zJL b0 τ F E (zLc i) [] (zA4 μ σ π g) c k) : zJL b0 τ F T (zLv i (some (.int kind)) (some (.int x))) [] (zA4 μ σ π g) c k := by
  have hT := hY.1
  have h2 : zJL b0 τ F (T + 28) (zLv i (some (.int kind)) (some (.int x))) [] (zA4 μ σ π g) c k := Q_goto hT d13 hE (Q_L (zsub_keep (zsub_keep (zsub_keep (zsub_keep (zsub_keep (zsub_drop (zsub_drop zsub_nil))))))) h)
  refine Q_thr hY hZ d0 d1 d2 d3 d4 hR e45 hkk hc hk ?_
  refine Q_if_ne (tgt := T + 28) hT d5 (by omega) (fun _ => h2) (fun q => ?_)
  refine Q_aload_n (i := 3) hT d6 rfl rfl ?_
  refine Q_iconst (v := 0) hT d7 rfl ?_
  refine Q_lald (a := 106) (j := 0) hT d8 h6.1 ⟨rfl, by show 0 < zL μ 106; rw [h6.2]; decide⟩ ?_
  refine Q_iload hT d9 rfl ?_
  refine Q_i2l hT d10 ?_
  refine Q_lcmp hT d11 ?_
  refine Q_topil (y := 0) (by show lg_cmp (g 106 0) x.toInt64 = 0; rw [e0 q]; exact lg_cmp_s _) ?_
  exact Q_if_eq (tgt := T + 28) hT d12 (by omega) (fun _ => h2) (fun q => absurd rfl q)
theorem Q_tb (hY : zCy l Z τ (mLw nm) kk mc ms) (hZ : zSt l Z) {T E i : Nat} {off : Int} {kind x : Int32} (d0 : decode cL_law T = .ok (.aload_n 2, 1)) (d1 : decode cL_law (T + 1) = .ok (.invokevirtual 104, 3)) (d2 : decode cL_law (T + 1 + 3) = .ok (.iload 5, 2)) (d3 : decode cL_law (T + 1 + 3 + 2) = .ok (.if_icmp .eq 5, 3)) (d4 : decode cL_law (T + 11) = .ok (.iload 5, 2))
    (d5 : decode cL_law (T + 11 + 2) = .ok (.ifCond .ne 22, 3)) (d6 : decode cL_law (T + 11 + 2 + 3) = .ok (.aload_n 3, 1)) (d7 : decode cL_law (T + 11 + 2 + 3 + 1) = .ok (.iconst 0, 1)) (d8 : decode cL_law (T + 11 + 2 + 3 + 1 + 1) = .ok (.laload, 1)) (d9 : decode cL_law (T + 11 + 2 + 3 + 1 + 1 + 1) = .ok (.iload 6, 2)) (d10 : decode cL_law (T + 21) = .ok (.ifCond .eq 7, 3)) (d10b : decode cL_law (T + 21 + 3) = .ok (.lconst 1, 1)) (d10c : decode cL_law (T + 21 + 3 + 1) = .ok (.goto 4, 3)) (d10d : decode cL_law (T + 21 + 7) = .ok (.lconst 0, 1)) (d11 : decode cL_law (T + 21 + 8) = .ok (.lcmp, 1)) (d12 : decode cL_law (T + 21 + 8 + 1) = .ok (.ifCond .eq 5, 3)) (d13 : decode cL_law (T + 35) = .ok (.goto off, 3)) (hE : ((T + 35 : Nat) : Int) + off = (E : Int))
    (hR : zRef μ π) (e45 : σ 67 45 = kind) (e0 : kind = 0 → g 106 0 = vL true x) (h6 : zK μ 106 = 3 ∧ zL μ 106 = 1) (hkk : 0 < kk) (hc : c ≤ mc) (hk : k ≤ ms) (h : zJL b0 τ F E (zLc i) [] (zA4 μ σ π g) c k) : zJL b0 τ F T (zLv i (some (.int kind)) (some (.int x))) [] (zA4 μ σ π g) c k := by
  have hT := hY.1
  have h2 : zJL b0 τ F (T + 35) (zLv i (some (.int kind)) (some (.int x))) [] (zA4 μ σ π g) c k := Q_goto hT d13 hE (Q_L (zsub_keep (zsub_keep (zsub_keep (zsub_keep (zsub_keep (zsub_drop (zsub_drop zsub_nil))))))) h)
  refine Q_thr hY hZ d0 d1 d2 d3 d4 hR e45 hkk hc hk ?_
  refine Q_if_ne (tgt := T + 35) hT d5 (by omega) (fun _ => h2) (fun q => ?_)
  refine Q_aload_n (i := 3) hT d6 rfl rfl ?_
  refine Q_iconst (v := 0) hT d7 rfl ?_
  refine Q_lald (a := 106) (j := 0) hT d8 h6.1 ⟨rfl, by show 0 < zL μ 106; rw [h6.2]; decide⟩ ?_
  refine Q_iload hT d9 rfl ?_
  refine Q_bl hT d10 d10b d10c d10d ?_
  refine Q_lcmp hT d11 ?_
  refine Q_topil (y := 0) (by show lg_cmp (g 106 0) (vL true x) = 0; rw [e0 q]; exact lg_cmp_s _) ?_
  exact Q_if_eq (tgt := T + 35) hT d12 (by omega) (fun _ => h2) (fun q => absurd rfl q)
end ZQ
set_option maxHeartbeats 1000000 in
set_option maxRecDepth 20000 in
theorem lc_0 {l : Launch} {Z : zZ} (hE : zEv l Z) {nm : String} {τ : zT} {mc ms : Nat} (hY : zCy l Z τ (mLw nm) 200 mc ms) {F : State → Prop} {b0 N i : Nat} {xs : Nat → Int32} (hX : zScr b0 N xs τ) (hi : i + 3 < N) (hN : N ≤ 2048) {n L : Nat} {μ : zMem} {σ : zS2} {π : zP2} {g : zG2} (h : LW n L μ σ π) (h6 : zK μ 106 = 3 ∧ zL μ 106 = 1) {c k : Nat} (hc : c + 3 ≤ mc) (hk : k + 38 ≤ ms) (hK : ∀ n L μ σ π g, LW n L μ σ π → (zK μ 106 = 3 ∧ zL μ 106 = 1) → zJL b0 τ F 1705 (zLc i) [] (zA4 μ σ π g) (c + 3) (k + 38)) : zJL b0 τ F 168 (zLc i) [] (zA4 μ σ π g) c k := by
  obtain ⟨hZ, hO, hXs, hNs, hSs⟩ := hE
  have hT := hY.1
  have hNb : N < 2147483648 := by omega
  obtain ⟨kind, kw, kx, mcw, msw, R, ⟨b1, b2, b3, b4⟩, hw, hx⟩ := p_type hZ hO hXs hNs hSs (g := g) h h6 (((xs (i + 1)).toUInt32 % 65536).toInt32)
  refine Q_aload_n (i := 1) hT dL_law_168 rfl rfl ?_
  refine Q_s hT hX (m := 1) (by omega) (by decide) hNb rfl dL_law_169 dL_law_170 dL_law_172 dL_law_173 dL_law_174 ?_
  refine Q_i2c hT dL_law_175 ?_
  refine Q_aload_n (i := 3) hT dL_law_176 rfl rfl ?_
  refine Q_callW hY dL_law_177 mfL_type mtL_type mwL_98 hw rfl (by omega) rfl rfl (Nat.le_of_ble_eq_true rfl) (by omega) (by omega) (fun r μ1 hq => ?_)
  obtain ⟨rfl, hR⟩ := hq
  obtain ⟨h67, hxc⟩ := hx _ hR
  show zJL _ _ _ _ _ [.int kind] _ _ _
  refine Q_istore hT dL_law_180 (Nat.le_of_ble_eq_true rfl) (by decide) ?_
  show zJL _ _ _ _ (zLv i (some (.int kind)) none) [] _ _ _
  refine Q_aload_n (i := 2) hT dL_law_182 rfl rfl ?_
  refine Q_s hT hX (m := 1) (by omega) (by decide) hNb rfl dL_law_183 dL_law_184 dL_law_186 dL_law_187 dL_law_188 ?_
  refine Q_i2c hT dL_law_189 ?_
  refine Q_callV (ci := 9) hY dL_law_190 mfX9_type miX9_type msX9_type kL_103 ⟨by decide, rfl⟩ h67 hxc rfl (by omega) rfl rfl (Nat.le_of_ble_eq_true rfl) (by omega) (by omega) (fun r μ2 hq => ?_)
  obtain ⟨x, rfl, n2, L2, μ3, σ3, π3, g3, rfl, hl, k6, l6, e45, e0⟩ := hq
  show zJL _ _ _ _ _ [.int x] _ _ _
  refine Q_istore hT dL_law_193 (Nat.le_of_ble_eq_true rfl) (by decide) ?_
  show zJL _ _ _ _ (zLv i (some (.int kind)) (some (.int x))) [] _ _ _
  refine Q_tl (E := 1705) hY hZ dL_law_195 dL_law_196 dL_law_199 dL_law_201 dL_law_206 dL_law_208 dL_law_211 dL_law_212 dL_law_213 dL_law_214 dL_law_216 dL_law_217 dL_law_218 dL_law_223 (by decide) hl.1 e45 e0 ⟨k6, l6⟩ (by decide) (by omega) (by omega) ?_
  exact (hK n2 L2 μ3 σ3 π3 g3 hl ⟨k6, l6⟩).wide (by omega) (by omega)
set_option maxHeartbeats 1000000 in
set_option maxRecDepth 20000 in
theorem lc_3 {l : Launch} {Z : zZ} (hE : zEv l Z) {nm : String} {τ : zT} {mc ms : Nat} (hY : zCy l Z τ (mLw nm) 200 mc ms) {F : State → Prop} {b0 N i : Nat} {xs : Nat → Int32} (hX : zScr b0 N xs τ) (hi : i + 3 < N) (hN : N ≤ 2048) {n L : Nat} {μ : zMem} {σ : zS2} {π : zP2} {g : zG2} (h : LW n L μ σ π) (h6 : zK μ 106 = 3 ∧ zL μ 106 = 1) {c k : Nat} (hc : c + 3 ≤ mc) (hk : k + 38 ≤ ms) (hK : ∀ n L μ σ π g, LW n L μ σ π → (zK μ 106 = 3 ∧ zL μ 106 = 1) → zJL b0 τ F 1705 (zLc i) [] (zA4 μ σ π g) (c + 3) (k + 38)) : zJL b0 τ F 252 (zLc i) [] (zA4 μ σ π g) c k := by
  obtain ⟨hZ, hO, hXs, hNs, hSs⟩ := hE
  have hT := hY.1
  have hNb : N < 2147483648 := by omega
  obtain ⟨kind, kw, kx, mcw, msw, R, ⟨b1, b2, b3, b4⟩, hw, hx⟩ := p_formula hZ hO hXs hNs hSs (g := g) h h6 (xs (i + 1))
  refine Q_aload_n (i := 1) hT dL_law_252 rfl rfl ?_
  refine Q_s hT hX (m := 1) (by omega) (by decide) hNb rfl dL_law_253 dL_law_254 dL_law_256 dL_law_257 dL_law_258 ?_
  refine Q_aload_n (i := 3) hT dL_law_259 rfl rfl ?_
  refine Q_callW hY dL_law_260 mfL_formula mtL_formula mwL_115 hw rfl (by omega) rfl rfl (Nat.le_of_ble_eq_true rfl) (by omega) (by omega) (fun r μ1 hq => ?_)
  obtain ⟨rfl, hR⟩ := hq
  obtain ⟨h67, hxc⟩ := hx _ hR
  show zJL _ _ _ _ _ [.int kind] _ _ _
  refine Q_istore hT dL_law_263 (Nat.le_of_ble_eq_true rfl) (by decide) ?_
  show zJL _ _ _ _ (zLv i (some (.int kind)) none) [] _ _ _
  refine Q_aload_n (i := 2) hT dL_law_265 rfl rfl ?_
  refine Q_s hT hX (m := 1) (by omega) (by decide) hNb rfl dL_law_266 dL_law_267 dL_law_269 dL_law_270 dL_law_271 ?_
  refine Q_callV (ci := 9) hY dL_law_272 mfX9_formula miX9_formula msX9_formula kL_118 ⟨by decide, rfl⟩ h67 hxc rfl (by omega) rfl rfl (Nat.le_of_ble_eq_true rfl) (by omega) (by omega) (fun r μ2 hq => ?_)
  obtain ⟨x, rfl, n2, L2, μ3, σ3, π3, g3, rfl, hl, k6, l6, e45, e0⟩ := hq
  show zJL _ _ _ _ _ [.int x] _ _ _
  refine Q_istore hT dL_law_275 (Nat.le_of_ble_eq_true rfl) (by decide) ?_
  show zJL _ _ _ _ (zLv i (some (.int kind)) (some (.int x))) [] _ _ _
  refine Q_tl (E := 1705) hY hZ dL_law_277 dL_law_278 dL_law_281 dL_law_283 dL_law_288 dL_law_290 dL_law_293 dL_law_294 dL_law_295 dL_law_296 dL_law_298 dL_law_299 dL_law_300 dL_law_305 (by decide) hl.1 e45 e0 ⟨k6, l6⟩ (by decide) (by omega) (by omega) ?_
  exact (hK n2 L2 μ3 σ3 π3 g3 hl ⟨k6, l6⟩).wide (by omega) (by omega)
set_option maxHeartbeats 1000000 in
set_option maxRecDepth 20000 in
theorem lc_4 {l : Launch} {Z : zZ} (hE : zEv l Z) {nm : String} {τ : zT} {mc ms : Nat} (hY : zCy l Z τ (mLw nm) 200 mc ms) {F : State → Prop} {b0 N i : Nat} {xs : Nat → Int32} (hX : zScr b0 N xs τ) (hi : i + 3 < N) (hN : N ≤ 2048) {n L : Nat} {μ : zMem} {σ : zS2} {π : zP2} {g : zG2} (h : LW n L μ σ π) (h6 : zK μ 106 = 3 ∧ zL μ 106 = 1) {c k : Nat} (hc : c + 3 ≤ mc) (hk : k + 38 ≤ ms) (hK : ∀ n L μ σ π g, LW n L μ σ π → (zK μ 106 = 3 ∧ zL μ 106 = 1) → zJL b0 τ F 1705 (zLc i) [] (zA4 μ σ π g) (c + 3) (k + 38)) : zJL b0 τ F 308 (zLc i) [] (zA4 μ σ π g) c k := by
  obtain ⟨hZ, hO, hXs, hNs, hSs⟩ := hE
  have hT := hY.1
  have hNb : N < 2147483648 := by omega
  obtain ⟨kind, kw, kx, mcw, msw, R, ⟨b1, b2, b3, b4⟩, hw, hx⟩ := p_hold hZ hO hXs hNs hSs (g := g) h h6 (xs (i + 1)) (xs (i + 2))
  refine Q_aload_n (i := 1) hT dL_law_308 rfl rfl ?_
  refine Q_s hT hX (m := 1) (by omega) (by decide) hNb rfl dL_law_309 dL_law_310 dL_law_312 dL_law_313 dL_law_314 ?_
  refine Q_s hT hX (m := 2) (by omega) (by decide) hNb rfl dL_law_315 dL_law_316 dL_law_318 dL_law_319 dL_law_320 ?_
  refine Q_aload_n (i := 3) hT dL_law_321 rfl rfl ?_
  refine Q_callW hY dL_law_322 mfL_hold mtL_hold mwL_119 hw rfl (by omega) rfl rfl (Nat.le_of_ble_eq_true rfl) (by omega) (by omega) (fun r μ1 hq => ?_)
  obtain ⟨rfl, hR⟩ := hq
  obtain ⟨h67, hxc⟩ := hx _ hR
  show zJL _ _ _ _ _ [.int kind] _ _ _
  refine Q_istore hT dL_law_325 (Nat.le_of_ble_eq_true rfl) (by decide) ?_
  show zJL _ _ _ _ (zLv i (some (.int kind)) none) [] _ _ _
  refine Q_aload_n (i := 2) hT dL_law_327 rfl rfl ?_
  refine Q_s hT hX (m := 1) (by omega) (by decide) hNb rfl dL_law_328 dL_law_329 dL_law_331 dL_law_332 dL_law_333 ?_
  refine Q_s hT hX (m := 2) (by omega) (by decide) hNb rfl dL_law_334 dL_law_335 dL_law_337 dL_law_338 dL_law_339 ?_
  refine Q_callV (ci := 9) hY dL_law_340 mfX9_hold miX9_hold msX9_hold kL_122 ⟨by decide, rfl⟩ h67 hxc rfl (by omega) rfl rfl (Nat.le_of_ble_eq_true rfl) (by omega) (by omega) (fun r μ2 hq => ?_)
  obtain ⟨x, rfl, n2, L2, μ3, σ3, π3, g3, rfl, hl, k6, l6, e45, e0⟩ := hq
  show zJL _ _ _ _ _ [.int x] _ _ _
  refine Q_istore hT dL_law_343 (Nat.le_of_ble_eq_true rfl) (by decide) ?_
  show zJL _ _ _ _ (zLv i (some (.int kind)) (some (.int x))) [] _ _ _
  refine Q_tl (E := 1705) hY hZ dL_law_345 dL_law_346 dL_law_349 dL_law_351 dL_law_356 dL_law_358 dL_law_361 dL_law_362 dL_law_363 dL_law_364 dL_law_366 dL_law_367 dL_law_368 dL_law_373 (by decide) hl.1 e45 e0 ⟨k6, l6⟩ (by decide) (by omega) (by omega) ?_
  exact (hK n2 L2 μ3 σ3 π3 g3 hl ⟨k6, l6⟩).wide (by omega) (by omega)
set_option maxHeartbeats 1000000 in
set_option maxRecDepth 20000 in
theorem lc_5 {l : Launch} {Z : zZ} (hE : zEv l Z) {nm : String} {τ : zT} {mc ms : Nat} (hY : zCy l Z τ (mLw nm) 200 mc ms) {F : State → Prop} {b0 N i : Nat} {xs : Nat → Int32} (hX : zScr b0 N xs τ) (hi : i + 3 < N) (hN : N ≤ 2048) {n L : Nat} {μ : zMem} {σ : zS2} {π : zP2} {g : zG2} (h : LW n L μ σ π) (h6 : zK μ 106 = 3 ∧ zL μ 106 = 1) {c k : Nat} (hc : c + 3 ≤ mc) (hk : k + 38 ≤ ms) (hK : ∀ n L μ σ π g, LW n L μ σ π → (zK μ 106 = 3 ∧ zL μ 106 = 1) → zJL b0 τ F 1705 (zLc i) [] (zA4 μ σ π g) (c + 3) (k + 38)) : zJL b0 τ F 376 (zLc i) [] (zA4 μ σ π g) c k := by
  obtain ⟨hZ, hO, hXs, hNs, hSs⟩ := hE
  have hT := hY.1
  have hNb : N < 2147483648 := by omega
  obtain ⟨kind, kw, kx, mcw, msw, R, ⟨b1, b2, b3, b4⟩, hw, hx⟩ := p_release hZ hO hXs hNs hSs (g := g) h h6 (xs (i + 1))
  refine Q_aload_n (i := 1) hT dL_law_376 rfl rfl ?_
  refine Q_s hT hX (m := 1) (by omega) (by decide) hNb rfl dL_law_377 dL_law_378 dL_law_380 dL_law_381 dL_law_382 ?_
  refine Q_aload_n (i := 3) hT dL_law_383 rfl rfl ?_
  refine Q_callW hY dL_law_384 mfL_release mtL_release mwL_123 hw rfl (by omega) rfl rfl (Nat.le_of_ble_eq_true rfl) (by omega) (by omega) (fun r μ1 hq => ?_)
  obtain ⟨rfl, hR⟩ := hq
  obtain ⟨h67, hxc⟩ := hx _ hR
  show zJL _ _ _ _ _ [.int kind] _ _ _
  refine Q_istore hT dL_law_387 (Nat.le_of_ble_eq_true rfl) (by decide) ?_
  show zJL _ _ _ _ (zLv i (some (.int kind)) none) [] _ _ _
  refine Q_aload_n (i := 2) hT dL_law_389 rfl rfl ?_
  refine Q_s hT hX (m := 1) (by omega) (by decide) hNb rfl dL_law_390 dL_law_391 dL_law_393 dL_law_394 dL_law_395 ?_
  refine Q_callV (ci := 9) hY dL_law_396 mfX9_release miX9_release msX9_release kL_125 ⟨by decide, rfl⟩ h67 hxc rfl (by omega) rfl rfl (Nat.le_of_ble_eq_true rfl) (by omega) (by omega) (fun r μ2 hq => ?_)
  obtain ⟨x, rfl, n2, L2, μ3, σ3, π3, g3, rfl, hl, k6, l6, e45, e0⟩ := hq
  show zJL _ _ _ _ _ [.int x] _ _ _
  refine Q_istore hT dL_law_399 (Nat.le_of_ble_eq_true rfl) (by decide) ?_
  show zJL _ _ _ _ (zLv i (some (.int kind)) (some (.int x))) [] _ _ _
  refine Q_tl (E := 1705) hY hZ dL_law_401 dL_law_402 dL_law_405 dL_law_407 dL_law_412 dL_law_414 dL_law_417 dL_law_418 dL_law_419 dL_law_420 dL_law_422 dL_law_423 dL_law_424 dL_law_429 (by decide) hl.1 e45 e0 ⟨k6, l6⟩ (by decide) (by omega) (by omega) ?_
  exact (hK n2 L2 μ3 σ3 π3 g3 hl ⟨k6, l6⟩).wide (by omega) (by omega)
set_option maxHeartbeats 1000000 in
set_option maxRecDepth 20000 in
theorem lc_6 {l : Launch} {Z : zZ} (hE : zEv l Z) {nm : String} {τ : zT} {mc ms : Nat} (hY : zCy l Z τ (mLw nm) 200 mc ms) {F : State → Prop} {b0 N i : Nat} {xs : Nat → Int32} (hX : zScr b0 N xs τ) (hi : i + 3 < N) (hN : N ≤ 2048) {n L : Nat} {μ : zMem} {σ : zS2} {π : zP2} {g : zG2} (h : LW n L μ σ π) (h6 : zK μ 106 = 3 ∧ zL μ 106 = 1) {c k : Nat} (hc : c + 3 ≤ mc) (hk : k + 38 ≤ ms) (hK : ∀ n L μ σ π g, LW n L μ σ π → (zK μ 106 = 3 ∧ zL μ 106 = 1) → zJL b0 τ F 1705 (zLc i) [] (zA4 μ σ π g) (c + 3) (k + 38)) : zJL b0 τ F 432 (zLc i) [] (zA4 μ σ π g) c k := by
  obtain ⟨hZ, hO, hXs, hNs, hSs⟩ := hE
  have hT := hY.1
  have hNb : N < 2147483648 := by omega
  obtain ⟨kind, kw, kx, mcw, msw, R, ⟨b1, b2, b3, b4⟩, hw, hx⟩ := p_read hZ hO hXs hNs hSs (g := g) h h6 (xs (i + 1)) (xs (i + 2))
  refine Q_aload_n (i := 1) hT dL_law_432 rfl rfl ?_
  refine Q_s hT hX (m := 1) (by omega) (by decide) hNb rfl dL_law_433 dL_law_434 dL_law_436 dL_law_437 dL_law_438 ?_
  refine Q_s hT hX (m := 2) (by omega) (by decide) hNb rfl dL_law_439 dL_law_440 dL_law_442 dL_law_443 dL_law_444 ?_
  refine Q_aload_n (i := 3) hT dL_law_445 rfl rfl ?_
  refine Q_callW hY dL_law_446 mfL_read mtL_read mwL_126 hw rfl (by omega) rfl rfl (Nat.le_of_ble_eq_true rfl) (by omega) (by omega) (fun r μ1 hq => ?_)
  obtain ⟨rfl, hR⟩ := hq
  obtain ⟨h67, hxc⟩ := hx _ hR
  show zJL _ _ _ _ _ [.int kind] _ _ _
  refine Q_istore hT dL_law_449 (Nat.le_of_ble_eq_true rfl) (by decide) ?_
  show zJL _ _ _ _ (zLv i (some (.int kind)) none) [] _ _ _
  refine Q_aload_n (i := 2) hT dL_law_451 rfl rfl ?_
  refine Q_s hT hX (m := 1) (by omega) (by decide) hNb rfl dL_law_452 dL_law_453 dL_law_455 dL_law_456 dL_law_457 ?_
  refine Q_s hT hX (m := 2) (by omega) (by decide) hNb rfl dL_law_458 dL_law_459 dL_law_461 dL_law_462 dL_law_463 ?_
  refine Q_callV (ci := 9) hY dL_law_464 mfX9_read miX9_read msX9_read kL_128 ⟨by decide, rfl⟩ h67 hxc rfl (by omega) rfl rfl (Nat.le_of_ble_eq_true rfl) (by omega) (by omega) (fun r μ2 hq => ?_)
  obtain ⟨x, rfl, n2, L2, μ3, σ3, π3, g3, rfl, hl, k6, l6, e45, e0⟩ := hq
  show zJL _ _ _ _ _ [.int x] _ _ _
  refine Q_istore hT dL_law_467 (Nat.le_of_ble_eq_true rfl) (by decide) ?_
  show zJL _ _ _ _ (zLv i (some (.int kind)) (some (.int x))) [] _ _ _
  refine Q_tl (E := 1705) hY hZ dL_law_469 dL_law_470 dL_law_473 dL_law_475 dL_law_480 dL_law_482 dL_law_485 dL_law_486 dL_law_487 dL_law_488 dL_law_490 dL_law_491 dL_law_492 dL_law_497 (by decide) hl.1 e45 e0 ⟨k6, l6⟩ (by decide) (by omega) (by omega) ?_
  exact (hK n2 L2 μ3 σ3 π3 g3 hl ⟨k6, l6⟩).wide (by omega) (by omega)
set_option maxHeartbeats 1000000 in
set_option maxRecDepth 20000 in
theorem lc_7 {l : Launch} {Z : zZ} (hE : zEv l Z) {nm : String} {τ : zT} {mc ms : Nat} (hY : zCy l Z τ (mLw nm) 200 mc ms) {F : State → Prop} {b0 N i : Nat} {xs : Nat → Int32} (hX : zScr b0 N xs τ) (hi : i + 3 < N) (hN : N ≤ 2048) {n L : Nat} {μ : zMem} {σ : zS2} {π : zP2} {g : zG2} (h : LW n L μ σ π) (h6 : zK μ 106 = 3 ∧ zL μ 106 = 1) {c k : Nat} (hc : c + 3 ≤ mc) (hk : k + 38 ≤ ms) (hK : ∀ n L μ σ π g, LW n L μ σ π → (zK μ 106 = 3 ∧ zL μ 106 = 1) → zJL b0 τ F 1705 (zLc i) [] (zA4 μ σ π g) (c + 3) (k + 38)) : zJL b0 τ F 500 (zLc i) [] (zA4 μ σ π g) c k := by
  obtain ⟨hZ, hO, hXs, hNs, hSs⟩ := hE
  have hT := hY.1
  have hNb : N < 2147483648 := by omega
  obtain ⟨kind, kw, kx, mcw, msw, R, ⟨b1, b2, b3, b4⟩, hw, hx⟩ := p_control hZ hO hXs hNs hSs (g := g) h h6 (xs (i + 1)) (xs (i + 2))
  refine Q_aload_n (i := 1) hT dL_law_500 rfl rfl ?_
  refine Q_s hT hX (m := 1) (by omega) (by decide) hNb rfl dL_law_501 dL_law_502 dL_law_504 dL_law_505 dL_law_506 ?_
  refine Q_s hT hX (m := 2) (by omega) (by decide) hNb rfl dL_law_507 dL_law_508 dL_law_510 dL_law_511 dL_law_512 ?_
  refine Q_aload_n (i := 3) hT dL_law_513 rfl rfl ?_
  refine Q_callW hY dL_law_514 mfL_control mtL_control mwL_129 hw rfl (by omega) rfl rfl (Nat.le_of_ble_eq_true rfl) (by omega) (by omega) (fun r μ1 hq => ?_)
  obtain ⟨rfl, hR⟩ := hq
  obtain ⟨h67, hxc⟩ := hx _ hR
  show zJL _ _ _ _ _ [.int kind] _ _ _
  refine Q_istore hT dL_law_517 (Nat.le_of_ble_eq_true rfl) (by decide) ?_
  show zJL _ _ _ _ (zLv i (some (.int kind)) none) [] _ _ _
  refine Q_aload_n (i := 2) hT dL_law_519 rfl rfl ?_
  refine Q_s hT hX (m := 1) (by omega) (by decide) hNb rfl dL_law_520 dL_law_521 dL_law_523 dL_law_524 dL_law_525 ?_
  refine Q_s hT hX (m := 2) (by omega) (by decide) hNb rfl dL_law_526 dL_law_527 dL_law_529 dL_law_530 dL_law_531 ?_
  refine Q_callV (ci := 9) hY dL_law_532 mfX9_control miX9_control msX9_control kL_131 ⟨by decide, rfl⟩ h67 hxc rfl (by omega) rfl rfl (Nat.le_of_ble_eq_true rfl) (by omega) (by omega) (fun r μ2 hq => ?_)
  obtain ⟨x, rfl, n2, L2, μ3, σ3, π3, g3, rfl, hl, k6, l6, e45, e0⟩ := hq
  show zJL _ _ _ _ _ [.int x] _ _ _
  refine Q_istore hT dL_law_535 (Nat.le_of_ble_eq_true rfl) (by decide) ?_
  show zJL _ _ _ _ (zLv i (some (.int kind)) (some (.int x))) [] _ _ _
  refine Q_tl (E := 1705) hY hZ dL_law_537 dL_law_538 dL_law_541 dL_law_543 dL_law_548 dL_law_550 dL_law_553 dL_law_554 dL_law_555 dL_law_556 dL_law_558 dL_law_559 dL_law_560 dL_law_565 (by decide) hl.1 e45 e0 ⟨k6, l6⟩ (by decide) (by omega) (by omega) ?_
  exact (hK n2 L2 μ3 σ3 π3 g3 hl ⟨k6, l6⟩).wide (by omega) (by omega)
set_option maxHeartbeats 1000000 in
set_option maxRecDepth 20000 in
theorem lc_8 {l : Launch} {Z : zZ} (hE : zEv l Z) {nm : String} {τ : zT} {mc ms : Nat} (hY : zCy l Z τ (mLw nm) 200 mc ms) {F : State → Prop} {b0 N i : Nat} {xs : Nat → Int32} (hX : zScr b0 N xs τ) (hi : i + 3 < N) (hN : N ≤ 2048) {n L : Nat} {μ : zMem} {σ : zS2} {π : zP2} {g : zG2} (h : LW n L μ σ π) (h6 : zK μ 106 = 3 ∧ zL μ 106 = 1) {c k : Nat} (hc : c + 3 ≤ mc) (hk : k + 38 ≤ ms) (hK : ∀ n L μ σ π g, LW n L μ σ π → (zK μ 106 = 3 ∧ zL μ 106 = 1) → zJL b0 τ F 1705 (zLc i) [] (zA4 μ σ π g) (c + 3) (k + 38)) : zJL b0 τ F 568 (zLc i) [] (zA4 μ σ π g) c k := by
  obtain ⟨hZ, hO, hXs, hNs, hSs⟩ := hE
  have hT := hY.1
  have hNb : N < 2147483648 := by omega
  obtain ⟨kind, kw, kx, mcw, msw, R, ⟨b1, b2, b3, b4⟩, hw, hx⟩ := p_limit hZ hO hXs hNs hSs (g := g) h h6 (xs (i + 1)) (xs (i + 2))
  refine Q_aload_n (i := 1) hT dL_law_568 rfl rfl ?_
  refine Q_s hT hX (m := 1) (by omega) (by decide) hNb rfl dL_law_569 dL_law_570 dL_law_572 dL_law_573 dL_law_574 ?_
  refine Q_s hT hX (m := 2) (by omega) (by decide) hNb rfl dL_law_575 dL_law_576 dL_law_578 dL_law_579 dL_law_580 ?_
  refine Q_aload_n (i := 3) hT dL_law_581 rfl rfl ?_
  refine Q_callW hY dL_law_582 mfL_limit mtL_limit mwL_132 hw rfl (by omega) rfl rfl (Nat.le_of_ble_eq_true rfl) (by omega) (by omega) (fun r μ1 hq => ?_)
  obtain ⟨rfl, hR⟩ := hq
  obtain ⟨h67, hxc⟩ := hx _ hR
  show zJL _ _ _ _ _ [.int kind] _ _ _
  refine Q_istore hT dL_law_585 (Nat.le_of_ble_eq_true rfl) (by decide) ?_
  show zJL _ _ _ _ (zLv i (some (.int kind)) none) [] _ _ _
  refine Q_aload_n (i := 2) hT dL_law_587 rfl rfl ?_
  refine Q_s hT hX (m := 1) (by omega) (by decide) hNb rfl dL_law_588 dL_law_589 dL_law_591 dL_law_592 dL_law_593 ?_
  refine Q_s hT hX (m := 2) (by omega) (by decide) hNb rfl dL_law_594 dL_law_595 dL_law_597 dL_law_598 dL_law_599 ?_
  refine Q_callV (ci := 9) hY dL_law_600 mfX9_limit miX9_limit msX9_limit kL_134 ⟨by decide, rfl⟩ h67 hxc rfl (by omega) rfl rfl (Nat.le_of_ble_eq_true rfl) (by omega) (by omega) (fun r μ2 hq => ?_)
  obtain ⟨x, rfl, n2, L2, μ3, σ3, π3, g3, rfl, hl, k6, l6, e45, e0⟩ := hq
  show zJL _ _ _ _ _ [.int x] _ _ _
  refine Q_istore hT dL_law_603 (Nat.le_of_ble_eq_true rfl) (by decide) ?_
  show zJL _ _ _ _ (zLv i (some (.int kind)) (some (.int x))) [] _ _ _
  refine Q_tl (E := 1705) hY hZ dL_law_605 dL_law_606 dL_law_609 dL_law_611 dL_law_616 dL_law_618 dL_law_621 dL_law_622 dL_law_623 dL_law_624 dL_law_626 dL_law_627 dL_law_628 dL_law_633 (by decide) hl.1 e45 e0 ⟨k6, l6⟩ (by decide) (by omega) (by omega) ?_
  exact (hK n2 L2 μ3 σ3 π3 g3 hl ⟨k6, l6⟩).wide (by omega) (by omega)
set_option maxHeartbeats 1000000 in
set_option maxRecDepth 20000 in
theorem lc_9 {l : Launch} {Z : zZ} (hE : zEv l Z) {nm : String} {τ : zT} {mc ms : Nat} (hY : zCy l Z τ (mLw nm) 200 mc ms) {F : State → Prop} {b0 N i : Nat} {xs : Nat → Int32} (hX : zScr b0 N xs τ) (hi : i + 3 < N) (hN : N ≤ 2048) {n L : Nat} {μ : zMem} {σ : zS2} {π : zP2} {g : zG2} (h : LW n L μ σ π) (h6 : zK μ 106 = 3 ∧ zL μ 106 = 1) {c k : Nat} (hc : c + 3 ≤ mc) (hk : k + 38 ≤ ms) (hK : ∀ n L μ σ π g, LW n L μ σ π → (zK μ 106 = 3 ∧ zL μ 106 = 1) → zJL b0 τ F 1705 (zLc i) [] (zA4 μ σ π g) (c + 3) (k + 38)) : zJL b0 τ F 636 (zLc i) [] (zA4 μ σ π g) c k := by
  obtain ⟨hZ, hO, hXs, hNs, hSs⟩ := hE
  have hT := hY.1
  have hNb : N < 2147483648 := by omega
  obtain ⟨kind, kw, kx, mcw, msw, R, ⟨b1, b2, b3, b4⟩, hw, hx⟩ := p_demand hZ hO hXs hNs hSs (g := g) h h6 (xs (i + 1)) (xs (i + 2)) (xs (i + 3))
  refine Q_aload_n (i := 1) hT dL_law_636 rfl rfl ?_
  refine Q_s hT hX (m := 1) (by omega) (by decide) hNb rfl dL_law_637 dL_law_638 dL_law_640 dL_law_641 dL_law_642 ?_
  refine Q_s hT hX (m := 2) (by omega) (by decide) hNb rfl dL_law_643 dL_law_644 dL_law_646 dL_law_647 dL_law_648 ?_
  refine Q_s hT hX (m := 3) (by omega) (by decide) hNb rfl dL_law_649 dL_law_650 dL_law_652 dL_law_653 dL_law_654 ?_
  refine Q_aload_n (i := 3) hT dL_law_655 rfl rfl ?_
  refine Q_callW hY dL_law_656 mfL_demand mtL_demand mwL_135 hw rfl (by omega) rfl rfl (Nat.le_of_ble_eq_true rfl) (by omega) (by omega) (fun r μ1 hq => ?_)
  obtain ⟨rfl, hR⟩ := hq
  obtain ⟨h67, hxc⟩ := hx _ hR
  show zJL _ _ _ _ _ [.int kind] _ _ _
  refine Q_istore hT dL_law_659 (Nat.le_of_ble_eq_true rfl) (by decide) ?_
  show zJL _ _ _ _ (zLv i (some (.int kind)) none) [] _ _ _
  refine Q_aload_n (i := 2) hT dL_law_661 rfl rfl ?_
  refine Q_s hT hX (m := 1) (by omega) (by decide) hNb rfl dL_law_662 dL_law_663 dL_law_665 dL_law_666 dL_law_667 ?_
  refine Q_s hT hX (m := 2) (by omega) (by decide) hNb rfl dL_law_668 dL_law_669 dL_law_671 dL_law_672 dL_law_673 ?_
  refine Q_s hT hX (m := 3) (by omega) (by decide) hNb rfl dL_law_674 dL_law_675 dL_law_677 dL_law_678 dL_law_679 ?_
  refine Q_callV (ci := 9) hY dL_law_680 mfX9_demand miX9_demand msX9_demand kL_138 ⟨by decide, rfl⟩ h67 hxc rfl (by omega) rfl rfl (Nat.le_of_ble_eq_true rfl) (by omega) (by omega) (fun r μ2 hq => ?_)
  obtain ⟨x, rfl, n2, L2, μ3, σ3, π3, g3, rfl, hl, k6, l6, e45, e0⟩ := hq
  show zJL _ _ _ _ _ [.int x] _ _ _
  refine Q_istore hT dL_law_683 (Nat.le_of_ble_eq_true rfl) (by decide) ?_
  show zJL _ _ _ _ (zLv i (some (.int kind)) (some (.int x))) [] _ _ _
  refine Q_tl (E := 1705) hY hZ dL_law_685 dL_law_686 dL_law_689 dL_law_691 dL_law_696 dL_law_698 dL_law_701 dL_law_702 dL_law_703 dL_law_704 dL_law_706 dL_law_707 dL_law_708 dL_law_713 (by decide) hl.1 e45 e0 ⟨k6, l6⟩ (by decide) (by omega) (by omega) ?_
  exact (hK n2 L2 μ3 σ3 π3 g3 hl ⟨k6, l6⟩).wide (by omega) (by omega)
set_option maxHeartbeats 1000000 in
set_option maxRecDepth 20000 in
theorem lc_10 {l : Launch} {Z : zZ} (hE : zEv l Z) {nm : String} {τ : zT} {mc ms : Nat} (hY : zCy l Z τ (mLw nm) 200 mc ms) {F : State → Prop} {b0 N i : Nat} {xs : Nat → Int32} (hX : zScr b0 N xs τ) (hi : i + 3 < N) (hN : N ≤ 2048) {n L : Nat} {μ : zMem} {σ : zS2} {π : zP2} {g : zG2} (h : LW n L μ σ π) (h6 : zK μ 106 = 3 ∧ zL μ 106 = 1) {c k : Nat} (hc : c + 3 ≤ mc) (hk : k + 38 ≤ ms) (hK : ∀ n L μ σ π g, LW n L μ σ π → (zK μ 106 = 3 ∧ zL μ 106 = 1) → zJL b0 τ F 1705 (zLc i) [] (zA4 μ σ π g) (c + 3) (k + 38)) : zJL b0 τ F 716 (zLc i) [] (zA4 μ σ π g) c k := by
  obtain ⟨hZ, hO, hXs, hNs, hSs⟩ := hE
  have hT := hY.1
  have hNb : N < 2147483648 := by omega
  obtain ⟨kind, kw, kx, mcw, msw, R, ⟨b1, b2, b3, b4⟩, hw, hx⟩ := p_need hZ hO hXs hNs hSs (g := g) h h6 (xs (i + 1)) (xs (i + 2)) ((if xs (i + 3) = 0 then 0 else 1))
  refine Q_aload_n (i := 1) hT dL_law_716 rfl rfl ?_
  refine Q_s hT hX (m := 1) (by omega) (by decide) hNb rfl dL_law_717 dL_law_718 dL_law_720 dL_law_721 dL_law_722 ?_
  refine Q_s hT hX (m := 2) (by omega) (by decide) hNb rfl dL_law_723 dL_law_724 dL_law_726 dL_law_727 dL_law_728 ?_
  refine Q_s hT hX (m := 3) (by omega) (by decide) hNb rfl dL_law_729 dL_law_730 dL_law_732 dL_law_733 dL_law_734 ?_
  refine Q_ne0 hT dL_law_735 dL_law_738 dL_law_739 dL_law_742 ?_
  refine Q_aload_n (i := 3) hT dL_law_743 rfl rfl ?_
  refine Q_callW hY dL_law_744 mfL_need mtL_need mwL_139 hw rfl (by omega) rfl rfl (Nat.le_of_ble_eq_true rfl) (by omega) (by omega) (fun r μ1 hq => ?_)
  obtain ⟨rfl, hR⟩ := hq
  obtain ⟨h67, hxc⟩ := hx _ hR
  show zJL _ _ _ _ _ [.int kind] _ _ _
  refine Q_istore hT dL_law_747 (Nat.le_of_ble_eq_true rfl) (by decide) ?_
  show zJL _ _ _ _ (zLv i (some (.int kind)) none) [] _ _ _
  refine Q_aload_n (i := 2) hT dL_law_749 rfl rfl ?_
  refine Q_s hT hX (m := 1) (by omega) (by decide) hNb rfl dL_law_750 dL_law_751 dL_law_753 dL_law_754 dL_law_755 ?_
  refine Q_s hT hX (m := 2) (by omega) (by decide) hNb rfl dL_law_756 dL_law_757 dL_law_759 dL_law_760 dL_law_761 ?_
  refine Q_s hT hX (m := 3) (by omega) (by decide) hNb rfl dL_law_762 dL_law_763 dL_law_765 dL_law_766 dL_law_767 ?_
  refine Q_ne0 hT dL_law_768 dL_law_771 dL_law_772 dL_law_775 ?_
  refine Q_callV (ci := 9) hY dL_law_776 mfX9_need miX9_need msX9_need kL_142 ⟨by decide, rfl⟩ h67 hxc rfl (by omega) rfl rfl (Nat.le_of_ble_eq_true rfl) (by omega) (by omega) (fun r μ2 hq => ?_)
  obtain ⟨x, rfl, n2, L2, μ3, σ3, π3, g3, rfl, hl, k6, l6, e45, e0⟩ := hq
  show zJL _ _ _ _ _ [.int x] _ _ _
  refine Q_istore hT dL_law_779 (Nat.le_of_ble_eq_true rfl) (by decide) ?_
  show zJL _ _ _ _ (zLv i (some (.int kind)) (some (.int x))) [] _ _ _
  refine Q_tl (E := 1705) hY hZ dL_law_781 dL_law_782 dL_law_785 dL_law_787 dL_law_792 dL_law_794 dL_law_797 dL_law_798 dL_law_799 dL_law_800 dL_law_802 dL_law_803 dL_law_804 dL_law_809 (by decide) hl.1 e45 e0 ⟨k6, l6⟩ (by decide) (by omega) (by omega) ?_
  exact (hK n2 L2 μ3 σ3 π3 g3 hl ⟨k6, l6⟩).wide (by omega) (by omega)
set_option maxHeartbeats 1000000 in
set_option maxRecDepth 20000 in
theorem lc_11 {l : Launch} {Z : zZ} (hE : zEv l Z) {nm : String} {τ : zT} {mc ms : Nat} (hY : zCy l Z τ (mLw nm) 200 mc ms) {F : State → Prop} {b0 N i : Nat} {xs : Nat → Int32} (hX : zScr b0 N xs τ) (hi : i + 3 < N) (hN : N ≤ 2048) {n L : Nat} {μ : zMem} {σ : zS2} {π : zP2} {g : zG2} (h : LW n L μ σ π) (h6 : zK μ 106 = 3 ∧ zL μ 106 = 1) {c k : Nat} (hc : c + 3 ≤ mc) (hk : k + 38 ≤ ms) (hK : ∀ n L μ σ π g, LW n L μ σ π → (zK μ 106 = 3 ∧ zL μ 106 = 1) → zJL b0 τ F 1705 (zLc i) [] (zA4 μ σ π g) (c + 3) (k + 38)) : zJL b0 τ F 812 (zLc i) [] (zA4 μ σ π g) c k := by
  obtain ⟨hZ, hO, hXs, hNs, hSs⟩ := hE
  have hT := hY.1
  have hNb : N < 2147483648 := by omega
  obtain ⟨kind, kw, kx, mcw, msw, R, ⟨b1, b2, b3, b4⟩, hw, hx⟩ := p_lie hZ hO hXs hNs hSs (g := g) h h6 (xs (i + 1)) (xs (i + 2))
  refine Q_aload_n (i := 1) hT dL_law_812 rfl rfl ?_
  refine Q_s hT hX (m := 1) (by omega) (by decide) hNb rfl dL_law_813 dL_law_814 dL_law_816 dL_law_817 dL_law_818 ?_
  refine Q_s hT hX (m := 2) (by omega) (by decide) hNb rfl dL_law_819 dL_law_820 dL_law_822 dL_law_823 dL_law_824 ?_
  refine Q_aload_n (i := 3) hT dL_law_825 rfl rfl ?_
  refine Q_callW hY dL_law_826 mfL_lie mtL_lie mwL_143 hw rfl (by omega) rfl rfl (Nat.le_of_ble_eq_true rfl) (by omega) (by omega) (fun r μ1 hq => ?_)
  obtain ⟨rfl, hR⟩ := hq
  obtain ⟨h67, hxc⟩ := hx _ hR
  show zJL _ _ _ _ _ [.int kind] _ _ _
  refine Q_istore hT dL_law_829 (Nat.le_of_ble_eq_true rfl) (by decide) ?_
  show zJL _ _ _ _ (zLv i (some (.int kind)) none) [] _ _ _
  refine Q_aload_n (i := 2) hT dL_law_831 rfl rfl ?_
  refine Q_s hT hX (m := 1) (by omega) (by decide) hNb rfl dL_law_832 dL_law_833 dL_law_835 dL_law_836 dL_law_837 ?_
  refine Q_s hT hX (m := 2) (by omega) (by decide) hNb rfl dL_law_838 dL_law_839 dL_law_841 dL_law_842 dL_law_843 ?_
  refine Q_callV (ci := 9) hY dL_law_844 mfX9_lie miX9_lie msX9_lie kL_145 ⟨by decide, rfl⟩ h67 hxc rfl (by omega) rfl rfl (Nat.le_of_ble_eq_true rfl) (by omega) (by omega) (fun r μ2 hq => ?_)
  obtain ⟨x, rfl, n2, L2, μ3, σ3, π3, g3, rfl, hl, k6, l6, e45, e0⟩ := hq
  show zJL _ _ _ _ _ [.int x] _ _ _
  refine Q_istore hT dL_law_847 (Nat.le_of_ble_eq_true rfl) (by decide) ?_
  show zJL _ _ _ _ (zLv i (some (.int kind)) (some (.int x))) [] _ _ _
  refine Q_tl (E := 1705) hY hZ dL_law_849 dL_law_850 dL_law_853 dL_law_855 dL_law_860 dL_law_862 dL_law_865 dL_law_866 dL_law_867 dL_law_868 dL_law_870 dL_law_871 dL_law_872 dL_law_877 (by decide) hl.1 e45 e0 ⟨k6, l6⟩ (by decide) (by omega) (by omega) ?_
  exact (hK n2 L2 μ3 σ3 π3 g3 hl ⟨k6, l6⟩).wide (by omega) (by omega)
set_option maxHeartbeats 1000000 in
set_option maxRecDepth 20000 in
theorem lc_12 {l : Launch} {Z : zZ} (hE : zEv l Z) {nm : String} {τ : zT} {mc ms : Nat} (hY : zCy l Z τ (mLw nm) 200 mc ms) {F : State → Prop} {b0 N i : Nat} {xs : Nat → Int32} (hX : zScr b0 N xs τ) (hi : i + 3 < N) (hN : N ≤ 2048) {n L : Nat} {μ : zMem} {σ : zS2} {π : zP2} {g : zG2} (h : LW n L μ σ π) (h6 : zK μ 106 = 3 ∧ zL μ 106 = 1) {c k : Nat} (hc : c + 3 ≤ mc) (hk : k + 38 ≤ ms) (hK : ∀ n L μ σ π g, LW n L μ σ π → (zK μ 106 = 3 ∧ zL μ 106 = 1) → zJL b0 τ F 1705 (zLc i) [] (zA4 μ σ π g) (c + 3) (k + 38)) : zJL b0 τ F 880 (zLc i) [] (zA4 μ σ π g) c k := by
  obtain ⟨hZ, hO, hXs, hNs, hSs⟩ := hE
  have hT := hY.1
  have hNb : N < 2147483648 := by omega
  obtain ⟨kind, kw, kx, mcw, msw, R, ⟨b1, b2, b3, b4⟩, hw, hx⟩ := p_mend hZ hO hXs hNs hSs (g := g) h h6 (xs (i + 1))
  refine Q_aload_n (i := 1) hT dL_law_880 rfl rfl ?_
  refine Q_s hT hX (m := 1) (by omega) (by decide) hNb rfl dL_law_881 dL_law_882 dL_law_884 dL_law_885 dL_law_886 ?_
  refine Q_aload_n (i := 3) hT dL_law_887 rfl rfl ?_
  refine Q_callW hY dL_law_888 mfL_mend mtL_mend mwL_146 hw rfl (by omega) rfl rfl (Nat.le_of_ble_eq_true rfl) (by omega) (by omega) (fun r μ1 hq => ?_)
  obtain ⟨rfl, hR⟩ := hq
  obtain ⟨h67, hxc⟩ := hx _ hR
  show zJL _ _ _ _ _ [.int kind] _ _ _
  refine Q_istore hT dL_law_891 (Nat.le_of_ble_eq_true rfl) (by decide) ?_
  show zJL _ _ _ _ (zLv i (some (.int kind)) none) [] _ _ _
  refine Q_aload_n (i := 2) hT dL_law_893 rfl rfl ?_
  refine Q_s hT hX (m := 1) (by omega) (by decide) hNb rfl dL_law_894 dL_law_895 dL_law_897 dL_law_898 dL_law_899 ?_
  refine Q_callV (ci := 9) hY dL_law_900 mfX9_mend miX9_mend msX9_mend kL_148 ⟨by decide, rfl⟩ h67 hxc rfl (by omega) rfl rfl (Nat.le_of_ble_eq_true rfl) (by omega) (by omega) (fun r μ2 hq => ?_)
  obtain ⟨x, rfl, n2, L2, μ3, σ3, π3, g3, rfl, hl, k6, l6, e45, e0⟩ := hq
  show zJL _ _ _ _ _ [.int x] _ _ _
  refine Q_istore hT dL_law_903 (Nat.le_of_ble_eq_true rfl) (by decide) ?_
  show zJL _ _ _ _ (zLv i (some (.int kind)) (some (.int x))) [] _ _ _
  refine Q_tl (E := 1705) hY hZ dL_law_905 dL_law_906 dL_law_909 dL_law_911 dL_law_916 dL_law_918 dL_law_921 dL_law_922 dL_law_923 dL_law_924 dL_law_926 dL_law_927 dL_law_928 dL_law_933 (by decide) hl.1 e45 e0 ⟨k6, l6⟩ (by decide) (by omega) (by omega) ?_
  exact (hK n2 L2 μ3 σ3 π3 g3 hl ⟨k6, l6⟩).wide (by omega) (by omega)
set_option maxHeartbeats 1000000 in
set_option maxRecDepth 20000 in
theorem lc_13 {l : Launch} {Z : zZ} (hE : zEv l Z) {nm : String} {τ : zT} {mc ms : Nat} (hY : zCy l Z τ (mLw nm) 200 mc ms) {F : State → Prop} {b0 N i : Nat} {xs : Nat → Int32} (hX : zScr b0 N xs τ) (hi : i + 3 < N) (hN : N ≤ 2048) {n L : Nat} {μ : zMem} {σ : zS2} {π : zP2} {g : zG2} (h : LW n L μ σ π) (h6 : zK μ 106 = 3 ∧ zL μ 106 = 1) {c k : Nat} (hc : c + 3 ≤ mc) (hk : k + 38 ≤ ms) (hK : ∀ n L μ σ π g, LW n L μ σ π → (zK μ 106 = 3 ∧ zL μ 106 = 1) → zJL b0 τ F 1705 (zLc i) [] (zA4 μ σ π g) (c + 3) (k + 38)) : zJL b0 τ F 936 (zLc i) [] (zA4 μ σ π g) c k := by
  obtain ⟨hZ, hO, hXs, hNs, hSs⟩ := hE
  have hT := hY.1
  have hNb : N < 2147483648 := by omega
  obtain ⟨kind, kw, kx, mcw, msw, R, ⟨b1, b2, b3, b4⟩, hw, hx⟩ := p_tick hZ hO hXs hNs hSs (g := g) h h6 (xs (i + 1))
  refine Q_aload_n (i := 1) hT dL_law_936 rfl rfl ?_
  refine Q_s hT hX (m := 1) (by omega) (by decide) hNb rfl dL_law_937 dL_law_938 dL_law_940 dL_law_941 dL_law_942 ?_
  refine Q_aload_n (i := 3) hT dL_law_943 rfl rfl ?_
  refine Q_callW hY dL_law_944 mfL_tick mtL_tick mwL_149 hw rfl (by omega) rfl rfl (Nat.le_of_ble_eq_true rfl) (by omega) (by omega) (fun r μ1 hq => ?_)
  obtain ⟨rfl, hR⟩ := hq
  obtain ⟨h67, hxc⟩ := hx _ hR
  show zJL _ _ _ _ _ [.int kind] _ _ _
  refine Q_istore hT dL_law_947 (Nat.le_of_ble_eq_true rfl) (by decide) ?_
  show zJL _ _ _ _ (zLv i (some (.int kind)) none) [] _ _ _
  refine Q_aload_n (i := 2) hT dL_law_949 rfl rfl ?_
  refine Q_s hT hX (m := 1) (by omega) (by decide) hNb rfl dL_law_950 dL_law_951 dL_law_953 dL_law_954 dL_law_955 ?_
  refine Q_callV (ci := 9) hY dL_law_956 mfX9_tick miX9_tick msX9_tick kL_151 ⟨by decide, rfl⟩ h67 hxc rfl (by omega) rfl rfl (Nat.le_of_ble_eq_true rfl) (by omega) (by omega) (fun r μ2 hq => ?_)
  obtain ⟨x, rfl, n2, L2, μ3, σ3, π3, g3, rfl, hl, k6, l6, e45, e0⟩ := hq
  show zJL _ _ _ _ _ [.int x] _ _ _
  refine Q_istore hT dL_law_959 (Nat.le_of_ble_eq_true rfl) (by decide) ?_
  show zJL _ _ _ _ (zLv i (some (.int kind)) (some (.int x))) [] _ _ _
  refine Q_tl (E := 1705) hY hZ dL_law_961 dL_law_962 dL_law_965 dL_law_967 dL_law_972 dL_law_974 dL_law_977 dL_law_978 dL_law_979 dL_law_980 dL_law_982 dL_law_983 dL_law_984 dL_law_989 (by decide) hl.1 e45 e0 ⟨k6, l6⟩ (by decide) (by omega) (by omega) ?_
  exact (hK n2 L2 μ3 σ3 π3 g3 hl ⟨k6, l6⟩).wide (by omega) (by omega)
set_option maxHeartbeats 1000000 in
set_option maxRecDepth 20000 in
theorem lc_14 {l : Launch} {Z : zZ} (hE : zEv l Z) {nm : String} {τ : zT} {mc ms : Nat} (hY : zCy l Z τ (mLw nm) 200 mc ms) {F : State → Prop} {b0 N i : Nat} {xs : Nat → Int32} (hX : zScr b0 N xs τ) (hi : i + 3 < N) (hN : N ≤ 2048) {n L : Nat} {μ : zMem} {σ : zS2} {π : zP2} {g : zG2} (h : LW n L μ σ π) (h6 : zK μ 106 = 3 ∧ zL μ 106 = 1) {c k : Nat} (hc : c + 3 ≤ mc) (hk : k + 38 ≤ ms) (hK : ∀ n L μ σ π g, LW n L μ σ π → (zK μ 106 = 3 ∧ zL μ 106 = 1) → zJL b0 τ F 1705 (zLc i) [] (zA4 μ σ π g) (c + 3) (k + 38)) : zJL b0 τ F 992 (zLc i) [] (zA4 μ σ π g) c k := by
  obtain ⟨hZ, hO, hXs, hNs, hSs⟩ := hE
  have hT := hY.1
  have hNb : N < 2147483648 := by omega
  obtain ⟨kind, kw, kx, mcw, msw, R, ⟨b1, b2, b3, b4⟩, hw, hx⟩ := p_undo hZ hO hXs hNs hSs (g := g) h h6 
  refine Q_aload_n (i := 1) hT dL_law_992 rfl rfl ?_
  refine Q_aload_n (i := 3) hT dL_law_993 rfl rfl ?_
  refine Q_callW hY dL_law_994 mfL_undo mtL_undo mwL_152 hw rfl (by omega) rfl rfl (Nat.le_of_ble_eq_true rfl) (by omega) (by omega) (fun r μ1 hq => ?_)
  obtain ⟨rfl, hR⟩ := hq
  obtain ⟨h67, hxc⟩ := hx _ hR
  show zJL _ _ _ _ _ [.int kind] _ _ _
  refine Q_istore hT dL_law_997 (Nat.le_of_ble_eq_true rfl) (by decide) ?_
  show zJL _ _ _ _ (zLv i (some (.int kind)) none) [] _ _ _
  refine Q_aload_n (i := 2) hT dL_law_999 rfl rfl ?_
  refine Q_callV (ci := 9) hY dL_law_1000 mfX9_undo miX9_undo msX9_undo kL_155 ⟨by decide, rfl⟩ h67 hxc rfl (by omega) rfl rfl (Nat.le_of_ble_eq_true rfl) (by omega) (by omega) (fun r μ2 hq => ?_)
  obtain ⟨x, rfl, n2, L2, μ3, σ3, π3, g3, rfl, hl, k6, l6, e45, e0⟩ := hq
  show zJL _ _ _ _ _ [.int x] _ _ _
  refine Q_istore hT dL_law_1003 (Nat.le_of_ble_eq_true rfl) (by decide) ?_
  show zJL _ _ _ _ (zLv i (some (.int kind)) (some (.int x))) [] _ _ _
  refine Q_tl (E := 1705) hY hZ dL_law_1005 dL_law_1006 dL_law_1009 dL_law_1011 dL_law_1016 dL_law_1018 dL_law_1021 dL_law_1022 dL_law_1023 dL_law_1024 dL_law_1026 dL_law_1027 dL_law_1028 dL_law_1033 (by decide) hl.1 e45 e0 ⟨k6, l6⟩ (by decide) (by omega) (by omega) ?_
  exact (hK n2 L2 μ3 σ3 π3 g3 hl ⟨k6, l6⟩).wide (by omega) (by omega)
set_option maxHeartbeats 1000000 in
set_option maxRecDepth 20000 in
theorem lc_17 {l : Launch} {Z : zZ} (hE : zEv l Z) {nm : String} {τ : zT} {mc ms : Nat} (hY : zCy l Z τ (mLw nm) 200 mc ms) {F : State → Prop} {b0 N i : Nat} {xs : Nat → Int32} (hX : zScr b0 N xs τ) (hi : i + 3 < N) (hN : N ≤ 2048) {n L : Nat} {μ : zMem} {σ : zS2} {π : zP2} {g : zG2} (h : LW n L μ σ π) (h6 : zK μ 106 = 3 ∧ zL μ 106 = 1) {c k : Nat} (hc : c + 3 ≤ mc) (hk : k + 38 ≤ ms) (hK : ∀ n L μ σ π g, LW n L μ σ π → (zK μ 106 = 3 ∧ zL μ 106 = 1) → zJL b0 τ F 1705 (zLc i) [] (zA4 μ σ π g) (c + 3) (k + 38)) : zJL b0 τ F 1062 (zLc i) [] (zA4 μ σ π g) c k := by
  obtain ⟨hZ, hO, hXs, hNs, hSs⟩ := hE
  have hT := hY.1
  have hNb : N < 2147483648 := by omega
  obtain ⟨kind, kw, kx, mcw, msw, R, ⟨b1, b2, b3, b4⟩, hw, hx⟩ := p_value hZ hO hXs hNs hSs (g := g) h h6 (xs (i + 1))
  refine Q_aload_n (i := 1) hT dL_law_1062 rfl rfl ?_
  refine Q_s hT hX (m := 1) (by omega) (by decide) hNb rfl dL_law_1063 dL_law_1064 dL_law_1066 dL_law_1067 dL_law_1068 ?_
  refine Q_aload_n (i := 3) hT dL_law_1069 rfl rfl ?_
  refine Q_callW hY dL_law_1070 mfL_value mtL_value mwL_164 hw rfl (by omega) rfl rfl (Nat.le_of_ble_eq_true rfl) (by omega) (by omega) (fun r μ1 hq => ?_)
  obtain ⟨rfl, hR⟩ := hq
  obtain ⟨h67, hxc⟩ := hx _ hR
  show zJL _ _ _ _ _ [.int kind] _ _ _
  refine Q_istore hT dL_law_1073 (Nat.le_of_ble_eq_true rfl) (by decide) ?_
  show zJL _ _ _ _ (zLv i (some (.int kind)) none) [] _ _ _
  refine Q_aload_n (i := 2) hT dL_law_1075 rfl rfl ?_
  refine Q_s hT hX (m := 1) (by omega) (by decide) hNb rfl dL_law_1076 dL_law_1077 dL_law_1079 dL_law_1080 dL_law_1081 ?_
  refine Q_callV (ci := 9) hY dL_law_1082 mfX9_value miX9_value msX9_value kL_166 ⟨by decide, rfl⟩ h67 hxc rfl (by omega) rfl rfl (Nat.le_of_ble_eq_true rfl) (by omega) (by omega) (fun r μ2 hq => ?_)
  obtain ⟨x, rfl, n2, L2, μ3, σ3, π3, g3, rfl, hl, k6, l6, e45, e0⟩ := hq
  show zJL _ _ _ _ _ [.int x] _ _ _
  refine Q_istore hT dL_law_1085 (Nat.le_of_ble_eq_true rfl) (by decide) ?_
  show zJL _ _ _ _ (zLv i (some (.int kind)) (some (.int x))) [] _ _ _
  refine Q_tl (E := 1705) hY hZ dL_law_1087 dL_law_1088 dL_law_1091 dL_law_1093 dL_law_1098 dL_law_1100 dL_law_1103 dL_law_1104 dL_law_1105 dL_law_1106 dL_law_1108 dL_law_1109 dL_law_1110 dL_law_1115 (by decide) hl.1 e45 e0 ⟨k6, l6⟩ (by decide) (by omega) (by omega) ?_
  exact (hK n2 L2 μ3 σ3 π3 g3 hl ⟨k6, l6⟩).wide (by omega) (by omega)
set_option maxHeartbeats 1000000 in
set_option maxRecDepth 20000 in
theorem lc_18 {l : Launch} {Z : zZ} (hE : zEv l Z) {nm : String} {τ : zT} {mc ms : Nat} (hY : zCy l Z τ (mLw nm) 200 mc ms) {F : State → Prop} {b0 N i : Nat} {xs : Nat → Int32} (hX : zScr b0 N xs τ) (hi : i + 3 < N) (hN : N ≤ 2048) {n L : Nat} {μ : zMem} {σ : zS2} {π : zP2} {g : zG2} (h : LW n L μ σ π) (h6 : zK μ 106 = 3 ∧ zL μ 106 = 1) {c k : Nat} (hc : c + 3 ≤ mc) (hk : k + 38 ≤ ms) (hK : ∀ n L μ σ π g, LW n L μ σ π → (zK μ 106 = 3 ∧ zL μ 106 = 1) → zJL b0 τ F 1705 (zLc i) [] (zA4 μ σ π g) (c + 3) (k + 38)) : zJL b0 τ F 1118 (zLc i) [] (zA4 μ σ π g) c k := by
  obtain ⟨hZ, hO, hXs, hNs, hSs⟩ := hE
  have hT := hY.1
  have hNb : N < 2147483648 := by omega
  obtain ⟨kind, kw, kx, mcw, msw, R, ⟨b1, b2, b3, b4⟩, hw, hx⟩ := p_valueAnew hZ hO hXs hNs hSs (g := g) h h6 (xs (i + 1))
  refine Q_aload_n (i := 1) hT dL_law_1118 rfl rfl ?_
  refine Q_s hT hX (m := 1) (by omega) (by decide) hNb rfl dL_law_1119 dL_law_1120 dL_law_1122 dL_law_1123 dL_law_1124 ?_
  refine Q_aload_n (i := 3) hT dL_law_1125 rfl rfl ?_
  refine Q_callW hY dL_law_1126 mfL_valueAnew mtL_valueAnew mwL_167 hw rfl (by omega) rfl rfl (Nat.le_of_ble_eq_true rfl) (by omega) (by omega) (fun r μ1 hq => ?_)
  obtain ⟨rfl, hR⟩ := hq
  obtain ⟨h67, hxc⟩ := hx _ hR
  show zJL _ _ _ _ _ [.int kind] _ _ _
  refine Q_istore hT dL_law_1129 (Nat.le_of_ble_eq_true rfl) (by decide) ?_
  show zJL _ _ _ _ (zLv i (some (.int kind)) none) [] _ _ _
  refine Q_aload_n (i := 2) hT dL_law_1131 rfl rfl ?_
  refine Q_s hT hX (m := 1) (by omega) (by decide) hNb rfl dL_law_1132 dL_law_1133 dL_law_1135 dL_law_1136 dL_law_1137 ?_
  refine Q_callV (ci := 9) hY dL_law_1138 mfX9_valueAnew miX9_valueAnew msX9_valueAnew kL_169 ⟨by decide, rfl⟩ h67 hxc rfl (by omega) rfl rfl (Nat.le_of_ble_eq_true rfl) (by omega) (by omega) (fun r μ2 hq => ?_)
  obtain ⟨x, rfl, n2, L2, μ3, σ3, π3, g3, rfl, hl, k6, l6, e45, e0⟩ := hq
  show zJL _ _ _ _ _ [.int x] _ _ _
  refine Q_istore hT dL_law_1141 (Nat.le_of_ble_eq_true rfl) (by decide) ?_
  show zJL _ _ _ _ (zLv i (some (.int kind)) (some (.int x))) [] _ _ _
  refine Q_tl (E := 1705) hY hZ dL_law_1143 dL_law_1144 dL_law_1147 dL_law_1149 dL_law_1154 dL_law_1156 dL_law_1159 dL_law_1160 dL_law_1161 dL_law_1162 dL_law_1164 dL_law_1165 dL_law_1166 dL_law_1171 (by decide) hl.1 e45 e0 ⟨k6, l6⟩ (by decide) (by omega) (by omega) ?_
  exact (hK n2 L2 μ3 σ3 π3 g3 hl ⟨k6, l6⟩).wide (by omega) (by omega)
set_option maxHeartbeats 1000000 in
set_option maxRecDepth 20000 in
theorem lc_19 {l : Launch} {Z : zZ} (hE : zEv l Z) {nm : String} {τ : zT} {mc ms : Nat} (hY : zCy l Z τ (mLw nm) 200 mc ms) {F : State → Prop} {b0 N i : Nat} {xs : Nat → Int32} (hX : zScr b0 N xs τ) (hi : i + 3 < N) (hN : N ≤ 2048) {n L : Nat} {μ : zMem} {σ : zS2} {π : zP2} {g : zG2} (h : LW n L μ σ π) (h6 : zK μ 106 = 3 ∧ zL μ 106 = 1) {c k : Nat} (hc : c + 3 ≤ mc) (hk : k + 38 ≤ ms) (hK : ∀ n L μ σ π g, LW n L μ σ π → (zK μ 106 = 3 ∧ zL μ 106 = 1) → zJL b0 τ F 1705 (zLc i) [] (zA4 μ σ π g) (c + 3) (k + 38)) : zJL b0 τ F 1174 (zLc i) [] (zA4 μ σ π g) c k := by
  obtain ⟨hZ, hO, hXs, hNs, hSs⟩ := hE
  have hT := hY.1
  have hNb : N < 2147483648 := by omega
  obtain ⟨kind, kw, kx, mcw, msw, R, ⟨b1, b2, b3, b4⟩, hw, hx⟩ := p_worth hZ hO hXs hNs hSs (g := g) h h6 (xs (i + 1))
  refine Q_aload_n (i := 1) hT dL_law_1174 rfl rfl ?_
  refine Q_s hT hX (m := 1) (by omega) (by decide) hNb rfl dL_law_1175 dL_law_1176 dL_law_1178 dL_law_1179 dL_law_1180 ?_
  refine Q_aload_n (i := 3) hT dL_law_1181 rfl rfl ?_
  refine Q_callW hY dL_law_1182 mfL_worth mtL_worth mwL_170 hw rfl (by omega) rfl rfl (Nat.le_of_ble_eq_true rfl) (by omega) (by omega) (fun r μ1 hq => ?_)
  obtain ⟨rfl, hR⟩ := hq
  obtain ⟨h67, hxc⟩ := hx _ hR
  show zJL _ _ _ _ _ [.int kind] _ _ _
  refine Q_istore hT dL_law_1185 (Nat.le_of_ble_eq_true rfl) (by decide) ?_
  show zJL _ _ _ _ (zLv i (some (.int kind)) none) [] _ _ _
  refine Q_aload_n (i := 2) hT dL_law_1187 rfl rfl ?_
  refine Q_s hT hX (m := 1) (by omega) (by decide) hNb rfl dL_law_1188 dL_law_1189 dL_law_1191 dL_law_1192 dL_law_1193 ?_
  refine Q_callV (ci := 9) hY dL_law_1194 mfX9_worth miX9_worth msX9_worth kL_172 ⟨by decide, rfl⟩ h67 hxc rfl (by omega) rfl rfl (Nat.le_of_ble_eq_true rfl) (by omega) (by omega) (fun r μ2 hq => ?_)
  obtain ⟨x, rfl, n2, L2, μ3, σ3, π3, g3, rfl, hl, k6, l6, e45, e0⟩ := hq
  show zJL _ _ _ _ _ [.int x] _ _ _
  refine Q_istore hT dL_law_1197 (Nat.le_of_ble_eq_true rfl) (by decide) ?_
  show zJL _ _ _ _ (zLv i (some (.int kind)) (some (.int x))) [] _ _ _
  refine Q_tl (E := 1705) hY hZ dL_law_1199 dL_law_1200 dL_law_1203 dL_law_1205 dL_law_1210 dL_law_1212 dL_law_1215 dL_law_1216 dL_law_1217 dL_law_1218 dL_law_1220 dL_law_1221 dL_law_1222 dL_law_1227 (by decide) hl.1 e45 e0 ⟨k6, l6⟩ (by decide) (by omega) (by omega) ?_
  exact (hK n2 L2 μ3 σ3 π3 g3 hl ⟨k6, l6⟩).wide (by omega) (by omega)
set_option maxHeartbeats 1000000 in
set_option maxRecDepth 20000 in
theorem lc_20 {l : Launch} {Z : zZ} (hE : zEv l Z) {nm : String} {τ : zT} {mc ms : Nat} (hY : zCy l Z τ (mLw nm) 200 mc ms) {F : State → Prop} {b0 N i : Nat} {xs : Nat → Int32} (hX : zScr b0 N xs τ) (hi : i + 3 < N) (hN : N ≤ 2048) {n L : Nat} {μ : zMem} {σ : zS2} {π : zP2} {g : zG2} (h : LW n L μ σ π) (h6 : zK μ 106 = 3 ∧ zL μ 106 = 1) {c k : Nat} (hc : c + 3 ≤ mc) (hk : k + 38 ≤ ms) (hK : ∀ n L μ σ π g, LW n L μ σ π → (zK μ 106 = 3 ∧ zL μ 106 = 1) → zJL b0 τ F 1705 (zLc i) [] (zA4 μ σ π g) (c + 3) (k + 38)) : zJL b0 τ F 1230 (zLc i) [] (zA4 μ σ π g) c k := by
  obtain ⟨hZ, hO, hXs, hNs, hSs⟩ := hE
  have hT := hY.1
  have hNb : N < 2147483648 := by omega
  obtain ⟨kind, kw, kx, mcw, msw, R, ⟨b1, b2, b3, b4⟩, hw, hx⟩ := p_depth hZ hO hXs hNs hSs (g := g) h h6 (xs (i + 1))
  refine Q_aload_n (i := 1) hT dL_law_1230 rfl rfl ?_
  refine Q_s hT hX (m := 1) (by omega) (by decide) hNb rfl dL_law_1231 dL_law_1232 dL_law_1234 dL_law_1235 dL_law_1236 ?_
  refine Q_aload_n (i := 3) hT dL_law_1237 rfl rfl ?_
  refine Q_callW hY dL_law_1238 mfL_depth mtL_depth mwL_173 hw rfl (by omega) rfl rfl (Nat.le_of_ble_eq_true rfl) (by omega) (by omega) (fun r μ1 hq => ?_)
  obtain ⟨rfl, hR⟩ := hq
  obtain ⟨h67, hxc⟩ := hx _ hR
  show zJL _ _ _ _ _ [.int kind] _ _ _
  refine Q_istore hT dL_law_1241 (Nat.le_of_ble_eq_true rfl) (by decide) ?_
  show zJL _ _ _ _ (zLv i (some (.int kind)) none) [] _ _ _
  refine Q_aload_n (i := 2) hT dL_law_1243 rfl rfl ?_
  refine Q_s hT hX (m := 1) (by omega) (by decide) hNb rfl dL_law_1244 dL_law_1245 dL_law_1247 dL_law_1248 dL_law_1249 ?_
  refine Q_callV (ci := 9) hY dL_law_1250 mfX9_depth miX9_depth msX9_depth kL_175 ⟨by decide, rfl⟩ h67 hxc rfl (by omega) rfl rfl (Nat.le_of_ble_eq_true rfl) (by omega) (by omega) (fun r μ2 hq => ?_)
  obtain ⟨x, rfl, n2, L2, μ3, σ3, π3, g3, rfl, hl, k6, l6, e45, e0⟩ := hq
  show zJL _ _ _ _ _ [.int x] _ _ _
  refine Q_istore hT dL_law_1253 (Nat.le_of_ble_eq_true rfl) (by decide) ?_
  show zJL _ _ _ _ (zLv i (some (.int kind)) (some (.int x))) [] _ _ _
  refine Q_tl (E := 1705) hY hZ dL_law_1255 dL_law_1256 dL_law_1259 dL_law_1261 dL_law_1266 dL_law_1268 dL_law_1271 dL_law_1272 dL_law_1273 dL_law_1274 dL_law_1276 dL_law_1277 dL_law_1278 dL_law_1283 (by decide) hl.1 e45 e0 ⟨k6, l6⟩ (by decide) (by omega) (by omega) ?_
  exact (hK n2 L2 μ3 σ3 π3 g3 hl ⟨k6, l6⟩).wide (by omega) (by omega)
set_option maxHeartbeats 1000000 in
set_option maxRecDepth 20000 in
theorem lc_21 {l : Launch} {Z : zZ} (hE : zEv l Z) {nm : String} {τ : zT} {mc ms : Nat} (hY : zCy l Z τ (mLw nm) 200 mc ms) {F : State → Prop} {b0 N i : Nat} {xs : Nat → Int32} (hX : zScr b0 N xs τ) (hi : i + 3 < N) (hN : N ≤ 2048) {n L : Nat} {μ : zMem} {σ : zS2} {π : zP2} {g : zG2} (h : LW n L μ σ π) (h6 : zK μ 106 = 3 ∧ zL μ 106 = 1) {c k : Nat} (hc : c + 3 ≤ mc) (hk : k + 38 ≤ ms) (hK : ∀ n L μ σ π g, LW n L μ σ π → (zK μ 106 = 3 ∧ zL μ 106 = 1) → zJL b0 τ F 1705 (zLc i) [] (zA4 μ σ π g) (c + 3) (k + 38)) : zJL b0 τ F 1286 (zLc i) [] (zA4 μ σ π g) c k := by
  obtain ⟨hZ, hO, hXs, hNs, hSs⟩ := hE
  have hT := hY.1
  have hNb : N < 2147483648 := by omega
  obtain ⟨kind, kw, kx, mcw, msw, R, ⟨b1, b2, b3, b4⟩, hw, hx⟩ := p_isStale hZ hO hXs hNs hSs (g := g) h h6 (xs (i + 1))
  refine Q_aload_n (i := 1) hT dL_law_1286 rfl rfl ?_
  refine Q_s hT hX (m := 1) (by omega) (by decide) hNb rfl dL_law_1287 dL_law_1288 dL_law_1290 dL_law_1291 dL_law_1292 ?_
  refine Q_aload_n (i := 3) hT dL_law_1293 rfl rfl ?_
  refine Q_callW hY dL_law_1294 mfL_isStale mtL_isStale mwL_176 hw rfl (by omega) rfl rfl (Nat.le_of_ble_eq_true rfl) (by omega) (by omega) (fun r μ1 hq => ?_)
  obtain ⟨rfl, hR⟩ := hq
  obtain ⟨h67, hxc⟩ := hx _ hR
  show zJL _ _ _ _ _ [.int kind] _ _ _
  refine Q_istore hT dL_law_1297 (Nat.le_of_ble_eq_true rfl) (by decide) ?_
  show zJL _ _ _ _ (zLv i (some (.int kind)) none) [] _ _ _
  refine Q_aload_n (i := 2) hT dL_law_1299 rfl rfl ?_
  refine Q_s hT hX (m := 1) (by omega) (by decide) hNb rfl dL_law_1300 dL_law_1301 dL_law_1303 dL_law_1304 dL_law_1305 ?_
  refine Q_callV (ci := 9) hY dL_law_1306 mfX9_isStale miX9_isStale msX9_isStale kL_178 ⟨by decide, rfl⟩ h67 hxc rfl (by omega) rfl rfl (Nat.le_of_ble_eq_true rfl) (by omega) (by omega) (fun r μ2 hq => ?_)
  obtain ⟨x, rfl, n2, L2, μ3, σ3, π3, g3, rfl, hl, k6, l6, e45, e0⟩ := hq
  show zJL _ _ _ _ _ [.int x] _ _ _
  refine Q_istore hT dL_law_1309 (Nat.le_of_ble_eq_true rfl) (by decide) ?_
  show zJL _ _ _ _ (zLv i (some (.int kind)) (some (.int x))) [] _ _ _
  refine Q_tb (E := 1705) hY hZ dL_law_1311 dL_law_1312 dL_law_1315 dL_law_1317 dL_law_1322 dL_law_1324 dL_law_1327 dL_law_1328 dL_law_1329 dL_law_1330 dL_law_1332 dL_law_1335 dL_law_1336 dL_law_1339 dL_law_1340 dL_law_1341 dL_law_1346 (by decide) hl.1 e45 e0 ⟨k6, l6⟩ (by decide) (by omega) (by omega) ?_
  exact (hK n2 L2 μ3 σ3 π3 g3 hl ⟨k6, l6⟩).wide (by omega) (by omega)
set_option maxHeartbeats 1000000 in
set_option maxRecDepth 20000 in
theorem lc_23 {l : Launch} {Z : zZ} (hE : zEv l Z) {nm : String} {τ : zT} {mc ms : Nat} (hY : zCy l Z τ (mLw nm) 200 mc ms) {F : State → Prop} {b0 N i : Nat} {xs : Nat → Int32} (hX : zScr b0 N xs τ) (hi : i + 3 < N) (hN : N ≤ 2048) {n L : Nat} {μ : zMem} {σ : zS2} {π : zP2} {g : zG2} (h : LW n L μ σ π) (h6 : zK μ 106 = 3 ∧ zL μ 106 = 1) {c k : Nat} (hc : c + 3 ≤ mc) (hk : k + 38 ≤ ms) (hK : ∀ n L μ σ π g, LW n L μ σ π → (zK μ 106 = 3 ∧ zL μ 106 = 1) → zJL b0 τ F 1705 (zLc i) [] (zA4 μ σ π g) (c + 3) (k + 38)) : zJL b0 τ F 1362 (zLc i) [] (zA4 μ σ π g) c k := by
  obtain ⟨hZ, hO, hXs, hNs, hSs⟩ := hE
  have hT := hY.1
  have hNb : N < 2147483648 := by omega
  obtain ⟨kind, kw, kx, mcw, msw, R, ⟨b1, b2, b3, b4⟩, hw, hx⟩ := p_state hZ hO hXs hNs hSs (g := g) h h6 (xs (i + 1))
  refine Q_aload_n (i := 1) hT dL_law_1362 rfl rfl ?_
  refine Q_s hT hX (m := 1) (by omega) (by decide) hNb rfl dL_law_1363 dL_law_1364 dL_law_1366 dL_law_1367 dL_law_1368 ?_
  refine Q_aload_n (i := 3) hT dL_law_1369 rfl rfl ?_
  refine Q_callW hY dL_law_1370 mfL_state mtL_state mwL_183 hw rfl (by omega) rfl rfl (Nat.le_of_ble_eq_true rfl) (by omega) (by omega) (fun r μ1 hq => ?_)
  obtain ⟨rfl, hR⟩ := hq
  obtain ⟨h67, hxc⟩ := hx _ hR
  show zJL _ _ _ _ _ [.int kind] _ _ _
  refine Q_istore hT dL_law_1373 (Nat.le_of_ble_eq_true rfl) (by decide) ?_
  show zJL _ _ _ _ (zLv i (some (.int kind)) none) [] _ _ _
  refine Q_aload_n (i := 2) hT dL_law_1375 rfl rfl ?_
  refine Q_s hT hX (m := 1) (by omega) (by decide) hNb rfl dL_law_1376 dL_law_1377 dL_law_1379 dL_law_1380 dL_law_1381 ?_
  refine Q_callV (ci := 9) hY dL_law_1382 mfX9_state miX9_state msX9_state kL_185 ⟨by decide, rfl⟩ h67 hxc rfl (by omega) rfl rfl (Nat.le_of_ble_eq_true rfl) (by omega) (by omega) (fun r μ2 hq => ?_)
  obtain ⟨x, rfl, n2, L2, μ3, σ3, π3, g3, rfl, hl, k6, l6, e45, e0⟩ := hq
  show zJL _ _ _ _ _ [.int x] _ _ _
  refine Q_istore hT dL_law_1385 (Nat.le_of_ble_eq_true rfl) (by decide) ?_
  show zJL _ _ _ _ (zLv i (some (.int kind)) (some (.int x))) [] _ _ _
  refine Q_tl (E := 1705) hY hZ dL_law_1387 dL_law_1388 dL_law_1391 dL_law_1393 dL_law_1398 dL_law_1400 dL_law_1403 dL_law_1404 dL_law_1405 dL_law_1406 dL_law_1408 dL_law_1409 dL_law_1410 dL_law_1415 (by decide) hl.1 e45 e0 ⟨k6, l6⟩ (by decide) (by omega) (by omega) ?_
  exact (hK n2 L2 μ3 σ3 π3 g3 hl ⟨k6, l6⟩).wide (by omega) (by omega)
set_option maxHeartbeats 1000000 in
set_option maxRecDepth 20000 in
theorem lc_24 {l : Launch} {Z : zZ} (hE : zEv l Z) {nm : String} {τ : zT} {mc ms : Nat} (hY : zCy l Z τ (mLw nm) 200 mc ms) {F : State → Prop} {b0 N i : Nat} {xs : Nat → Int32} (hX : zScr b0 N xs τ) (hi : i + 3 < N) (hN : N ≤ 2048) {n L : Nat} {μ : zMem} {σ : zS2} {π : zP2} {g : zG2} (h : LW n L μ σ π) (h6 : zK μ 106 = 3 ∧ zL μ 106 = 1) {c k : Nat} (hc : c + 3 ≤ mc) (hk : k + 38 ≤ ms) (hK : ∀ n L μ σ π g, LW n L μ σ π → (zK μ 106 = 3 ∧ zL μ 106 = 1) → zJL b0 τ F 1705 (zLc i) [] (zA4 μ σ π g) (c + 3) (k + 38)) : zJL b0 τ F 1418 (zLc i) [] (zA4 μ σ π g) c k := by
  obtain ⟨hZ, hO, hXs, hNs, hSs⟩ := hE
  have hT := hY.1
  have hNb : N < 2147483648 := by omega
  obtain ⟨kind, kw, kx, mcw, msw, R, ⟨b1, b2, b3, b4⟩, hw, hx⟩ := p_load hZ hO hXs hNs hSs (g := g) h h6 (xs (i + 1))
  refine Q_aload_n (i := 1) hT dL_law_1418 rfl rfl ?_
  refine Q_s hT hX (m := 1) (by omega) (by decide) hNb rfl dL_law_1419 dL_law_1420 dL_law_1422 dL_law_1423 dL_law_1424 ?_
  refine Q_aload_n (i := 3) hT dL_law_1425 rfl rfl ?_
  refine Q_callW hY dL_law_1426 mfL_load mtL_load mwL_186 hw rfl (by omega) rfl rfl (Nat.le_of_ble_eq_true rfl) (by omega) (by omega) (fun r μ1 hq => ?_)
  obtain ⟨rfl, hR⟩ := hq
  obtain ⟨h67, hxc⟩ := hx _ hR
  show zJL _ _ _ _ _ [.int kind] _ _ _
  refine Q_istore hT dL_law_1429 (Nat.le_of_ble_eq_true rfl) (by decide) ?_
  show zJL _ _ _ _ (zLv i (some (.int kind)) none) [] _ _ _
  refine Q_aload_n (i := 2) hT dL_law_1431 rfl rfl ?_
  refine Q_s hT hX (m := 1) (by omega) (by decide) hNb rfl dL_law_1432 dL_law_1433 dL_law_1435 dL_law_1436 dL_law_1437 ?_
  refine Q_callV (ci := 9) hY dL_law_1438 mfX9_load miX9_load msX9_load kL_188 ⟨by decide, rfl⟩ h67 hxc rfl (by omega) rfl rfl (Nat.le_of_ble_eq_true rfl) (by omega) (by omega) (fun r μ2 hq => ?_)
  obtain ⟨x, rfl, n2, L2, μ3, σ3, π3, g3, rfl, hl, k6, l6, e45, e0⟩ := hq
  show zJL _ _ _ _ _ [.int x] _ _ _
  refine Q_istore hT dL_law_1441 (Nat.le_of_ble_eq_true rfl) (by decide) ?_
  show zJL _ _ _ _ (zLv i (some (.int kind)) (some (.int x))) [] _ _ _
  refine Q_tl (E := 1705) hY hZ dL_law_1443 dL_law_1444 dL_law_1447 dL_law_1449 dL_law_1454 dL_law_1456 dL_law_1459 dL_law_1460 dL_law_1461 dL_law_1462 dL_law_1464 dL_law_1465 dL_law_1466 dL_law_1471 (by decide) hl.1 e45 e0 ⟨k6, l6⟩ (by decide) (by omega) (by omega) ?_
  exact (hK n2 L2 μ3 σ3 π3 g3 hl ⟨k6, l6⟩).wide (by omega) (by omega)
set_option maxHeartbeats 1000000 in
set_option maxRecDepth 20000 in
theorem lc_25 {l : Launch} {Z : zZ} (hE : zEv l Z) {nm : String} {τ : zT} {mc ms : Nat} (hY : zCy l Z τ (mLw nm) 200 mc ms) {F : State → Prop} {b0 N i : Nat} {xs : Nat → Int32} (hX : zScr b0 N xs τ) (hi : i + 3 < N) (hN : N ≤ 2048) {n L : Nat} {μ : zMem} {σ : zS2} {π : zP2} {g : zG2} (h : LW n L μ σ π) (h6 : zK μ 106 = 3 ∧ zL μ 106 = 1) {c k : Nat} (hc : c + 3 ≤ mc) (hk : k + 38 ≤ ms) (hK : ∀ n L μ σ π g, LW n L μ σ π → (zK μ 106 = 3 ∧ zL μ 106 = 1) → zJL b0 τ F 1705 (zLc i) [] (zA4 μ σ π g) (c + 3) (k + 38)) : zJL b0 τ F 1474 (zLc i) [] (zA4 μ σ π g) c k := by
  obtain ⟨hZ, hO, hXs, hNs, hSs⟩ := hE
  have hT := hY.1
  have hNb : N < 2147483648 := by omega
  obtain ⟨kind, kw, kx, mcw, msw, R, ⟨b1, b2, b3, b4⟩, hw, hx⟩ := p_told hZ hO hXs hNs hSs (g := g) h h6 (xs (i + 1))
  refine Q_aload_n (i := 1) hT dL_law_1474 rfl rfl ?_
  refine Q_s hT hX (m := 1) (by omega) (by decide) hNb rfl dL_law_1475 dL_law_1476 dL_law_1478 dL_law_1479 dL_law_1480 ?_
  refine Q_aload_n (i := 3) hT dL_law_1481 rfl rfl ?_
  refine Q_callW hY dL_law_1482 mfL_told mtL_told mwL_189 hw rfl (by omega) rfl rfl (Nat.le_of_ble_eq_true rfl) (by omega) (by omega) (fun r μ1 hq => ?_)
  obtain ⟨rfl, hR⟩ := hq
  obtain ⟨h67, hxc⟩ := hx _ hR
  show zJL _ _ _ _ _ [.int kind] _ _ _
  refine Q_istore hT dL_law_1485 (Nat.le_of_ble_eq_true rfl) (by decide) ?_
  show zJL _ _ _ _ (zLv i (some (.int kind)) none) [] _ _ _
  refine Q_aload_n (i := 2) hT dL_law_1487 rfl rfl ?_
  refine Q_s hT hX (m := 1) (by omega) (by decide) hNb rfl dL_law_1488 dL_law_1489 dL_law_1491 dL_law_1492 dL_law_1493 ?_
  refine Q_callV (ci := 9) hY dL_law_1494 mfX9_told miX9_told msX9_told kL_191 ⟨by decide, rfl⟩ h67 hxc rfl (by omega) rfl rfl (Nat.le_of_ble_eq_true rfl) (by omega) (by omega) (fun r μ2 hq => ?_)
  obtain ⟨x, rfl, n2, L2, μ3, σ3, π3, g3, rfl, hl, k6, l6, e45, e0⟩ := hq
  show zJL _ _ _ _ _ [.int x] _ _ _
  refine Q_istore hT dL_law_1497 (Nat.le_of_ble_eq_true rfl) (by decide) ?_
  show zJL _ _ _ _ (zLv i (some (.int kind)) (some (.int x))) [] _ _ _
  refine Q_tl (E := 1705) hY hZ dL_law_1499 dL_law_1500 dL_law_1503 dL_law_1505 dL_law_1510 dL_law_1512 dL_law_1515 dL_law_1516 dL_law_1517 dL_law_1518 dL_law_1520 dL_law_1521 dL_law_1522 dL_law_1527 (by decide) hl.1 e45 e0 ⟨k6, l6⟩ (by decide) (by omega) (by omega) ?_
  exact (hK n2 L2 μ3 σ3 π3 g3 hl ⟨k6, l6⟩).wide (by omega) (by omega)
set_option maxHeartbeats 1000000 in
set_option maxRecDepth 20000 in
theorem lc_26 {l : Launch} {Z : zZ} (hE : zEv l Z) {nm : String} {τ : zT} {mc ms : Nat} (hY : zCy l Z τ (mLw nm) 200 mc ms) {F : State → Prop} {b0 N i : Nat} {xs : Nat → Int32} (hX : zScr b0 N xs τ) (hi : i + 3 < N) (hN : N ≤ 2048) {n L : Nat} {μ : zMem} {σ : zS2} {π : zP2} {g : zG2} (h : LW n L μ σ π) (h6 : zK μ 106 = 3 ∧ zL μ 106 = 1) {c k : Nat} (hc : c + 3 ≤ mc) (hk : k + 38 ≤ ms) (hK : ∀ n L μ σ π g, LW n L μ σ π → (zK μ 106 = 3 ∧ zL μ 106 = 1) → zJL b0 τ F 1705 (zLc i) [] (zA4 μ σ π g) (c + 3) (k + 38)) : zJL b0 τ F 1530 (zLc i) [] (zA4 μ σ π g) c k := by
  obtain ⟨hZ, hO, hXs, hNs, hSs⟩ := hE
  have hT := hY.1
  have hNb : N < 2147483648 := by omega
  obtain ⟨kind, kw, kx, mcw, msw, R, ⟨b1, b2, b3, b4⟩, hw, hx⟩ := p_starts hZ hO hXs hNs hSs (g := g) h h6 (xs (i + 1))
  refine Q_aload_n (i := 1) hT dL_law_1530 rfl rfl ?_
  refine Q_s hT hX (m := 1) (by omega) (by decide) hNb rfl dL_law_1531 dL_law_1532 dL_law_1534 dL_law_1535 dL_law_1536 ?_
  refine Q_aload_n (i := 3) hT dL_law_1537 rfl rfl ?_
  refine Q_callW hY dL_law_1538 mfL_starts mtL_starts mwL_192 hw rfl (by omega) rfl rfl (Nat.le_of_ble_eq_true rfl) (by omega) (by omega) (fun r μ1 hq => ?_)
  obtain ⟨rfl, hR⟩ := hq
  obtain ⟨h67, hxc⟩ := hx _ hR
  show zJL _ _ _ _ _ [.int kind] _ _ _
  refine Q_istore hT dL_law_1541 (Nat.le_of_ble_eq_true rfl) (by decide) ?_
  show zJL _ _ _ _ (zLv i (some (.int kind)) none) [] _ _ _
  refine Q_aload_n (i := 2) hT dL_law_1543 rfl rfl ?_
  refine Q_s hT hX (m := 1) (by omega) (by decide) hNb rfl dL_law_1544 dL_law_1545 dL_law_1547 dL_law_1548 dL_law_1549 ?_
  refine Q_callV (ci := 9) hY dL_law_1550 mfX9_starts miX9_starts msX9_starts kL_194 ⟨by decide, rfl⟩ h67 hxc rfl (by omega) rfl rfl (Nat.le_of_ble_eq_true rfl) (by omega) (by omega) (fun r μ2 hq => ?_)
  obtain ⟨x, rfl, n2, L2, μ3, σ3, π3, g3, rfl, hl, k6, l6, e45, e0⟩ := hq
  show zJL _ _ _ _ _ [.int x] _ _ _
  refine Q_istore hT dL_law_1553 (Nat.le_of_ble_eq_true rfl) (by decide) ?_
  show zJL _ _ _ _ (zLv i (some (.int kind)) (some (.int x))) [] _ _ _
  refine Q_tl (E := 1705) hY hZ dL_law_1555 dL_law_1556 dL_law_1559 dL_law_1561 dL_law_1566 dL_law_1568 dL_law_1571 dL_law_1572 dL_law_1573 dL_law_1574 dL_law_1576 dL_law_1577 dL_law_1578 dL_law_1583 (by decide) hl.1 e45 e0 ⟨k6, l6⟩ (by decide) (by omega) (by omega) ?_
  exact (hK n2 L2 μ3 σ3 π3 g3 hl ⟨k6, l6⟩).wide (by omega) (by omega)
set_option maxHeartbeats 1000000 in
set_option maxRecDepth 20000 in
theorem lc_27 {l : Launch} {Z : zZ} (hE : zEv l Z) {nm : String} {τ : zT} {mc ms : Nat} (hY : zCy l Z τ (mLw nm) 200 mc ms) {F : State → Prop} {b0 N i : Nat} {xs : Nat → Int32} (hX : zScr b0 N xs τ) (hi : i + 3 < N) (hN : N ≤ 2048) {n L : Nat} {μ : zMem} {σ : zS2} {π : zP2} {g : zG2} (h : LW n L μ σ π) (h6 : zK μ 106 = 3 ∧ zL μ 106 = 1) {c k : Nat} (hc : c + 3 ≤ mc) (hk : k + 38 ≤ ms) (hK : ∀ n L μ σ π g, LW n L μ σ π → (zK μ 106 = 3 ∧ zL μ 106 = 1) → zJL b0 τ F 1705 (zLc i) [] (zA4 μ σ π g) (c + 3) (k + 38)) : zJL b0 τ F 1586 (zLc i) [] (zA4 μ σ π g) c k := by
  obtain ⟨hZ, hO, hXs, hNs, hSs⟩ := hE
  have hT := hY.1
  have hNb : N < 2147483648 := by omega
  obtain ⟨kind, kw, kx, mcw, msw, R, ⟨b1, b2, b3, b4⟩, hw, hx⟩ := p_trial hZ hO hXs hNs hSs (g := g) h h6 (xs (i + 1))
  refine Q_aload_n (i := 1) hT dL_law_1586 rfl rfl ?_
  refine Q_s hT hX (m := 1) (by omega) (by decide) hNb rfl dL_law_1587 dL_law_1588 dL_law_1590 dL_law_1591 dL_law_1592 ?_
  refine Q_aload_n (i := 3) hT dL_law_1593 rfl rfl ?_
  refine Q_callW hY dL_law_1594 mfL_trial mtL_trial mwL_195 hw rfl (by omega) rfl rfl (Nat.le_of_ble_eq_true rfl) (by omega) (by omega) (fun r μ1 hq => ?_)
  obtain ⟨rfl, hR⟩ := hq
  obtain ⟨h67, hxc⟩ := hx _ hR
  show zJL _ _ _ _ _ [.int kind] _ _ _
  refine Q_istore hT dL_law_1597 (Nat.le_of_ble_eq_true rfl) (by decide) ?_
  show zJL _ _ _ _ (zLv i (some (.int kind)) none) [] _ _ _
  refine Q_aload_n (i := 2) hT dL_law_1599 rfl rfl ?_
  refine Q_s hT hX (m := 1) (by omega) (by decide) hNb rfl dL_law_1600 dL_law_1601 dL_law_1603 dL_law_1604 dL_law_1605 ?_
  refine Q_callV (ci := 9) hY dL_law_1606 mfX9_trial miX9_trial msX9_trial kL_197 ⟨by decide, rfl⟩ h67 hxc rfl (by omega) rfl rfl (Nat.le_of_ble_eq_true rfl) (by omega) (by omega) (fun r μ2 hq => ?_)
  obtain ⟨x, rfl, n2, L2, μ3, σ3, π3, g3, rfl, hl, k6, l6, e45, e0⟩ := hq
  show zJL _ _ _ _ _ [.int x] _ _ _
  refine Q_istore hT dL_law_1609 (Nat.le_of_ble_eq_true rfl) (by decide) ?_
  show zJL _ _ _ _ (zLv i (some (.int kind)) (some (.int x))) [] _ _ _
  refine Q_tl (E := 1705) hY hZ dL_law_1611 dL_law_1612 dL_law_1615 dL_law_1617 dL_law_1622 dL_law_1624 dL_law_1627 dL_law_1628 dL_law_1629 dL_law_1630 dL_law_1632 dL_law_1633 dL_law_1634 dL_law_1639 (by decide) hl.1 e45 e0 ⟨k6, l6⟩ (by decide) (by omega) (by omega) ?_
  exact (hK n2 L2 μ3 σ3 π3 g3 hl ⟨k6, l6⟩).wide (by omega) (by omega)
set_option maxHeartbeats 1000000 in
set_option maxRecDepth 20000 in
theorem lc_28 {l : Launch} {Z : zZ} (hE : zEv l Z) {nm : String} {τ : zT} {mc ms : Nat} (hY : zCy l Z τ (mLw nm) 200 mc ms) {F : State → Prop} {b0 N i : Nat} {xs : Nat → Int32} (hX : zScr b0 N xs τ) (hi : i + 3 < N) (hN : N ≤ 2048) {n L : Nat} {μ : zMem} {σ : zS2} {π : zP2} {g : zG2} (h : LW n L μ σ π) (h6 : zK μ 106 = 3 ∧ zL μ 106 = 1) {c k : Nat} (hc : c + 3 ≤ mc) (hk : k + 38 ≤ ms) (hK : ∀ n L μ σ π g, LW n L μ σ π → (zK μ 106 = 3 ∧ zL μ 106 = 1) → zJL b0 τ F 1705 (zLc i) [] (zA4 μ σ π g) (c + 3) (k + 38)) : zJL b0 τ F 1642 (zLc i) [] (zA4 μ σ π g) c k := by
  obtain ⟨hZ, hO, hXs, hNs, hSs⟩ := hE
  have hT := hY.1
  have hNb : N < 2147483648 := by omega
  obtain ⟨kind, kw, kx, mcw, msw, R, ⟨b1, b2, b3, b4⟩, hw, hx⟩ := p_isLoop hZ hO hXs hNs hSs (g := g) h h6 (xs (i + 1))
  refine Q_aload_n (i := 1) hT dL_law_1642 rfl rfl ?_
  refine Q_s hT hX (m := 1) (by omega) (by decide) hNb rfl dL_law_1643 dL_law_1644 dL_law_1646 dL_law_1647 dL_law_1648 ?_
  refine Q_aload_n (i := 3) hT dL_law_1649 rfl rfl ?_
  refine Q_callW hY dL_law_1650 mfL_isLoop mtL_isLoop mwL_198 hw rfl (by omega) rfl rfl (Nat.le_of_ble_eq_true rfl) (by omega) (by omega) (fun r μ1 hq => ?_)
  obtain ⟨rfl, hR⟩ := hq
  obtain ⟨h67, hxc⟩ := hx _ hR
  show zJL _ _ _ _ _ [.int kind] _ _ _
  refine Q_istore hT dL_law_1653 (Nat.le_of_ble_eq_true rfl) (by decide) ?_
  show zJL _ _ _ _ (zLv i (some (.int kind)) none) [] _ _ _
  refine Q_aload_n (i := 2) hT dL_law_1655 rfl rfl ?_
  refine Q_s hT hX (m := 1) (by omega) (by decide) hNb rfl dL_law_1656 dL_law_1657 dL_law_1659 dL_law_1660 dL_law_1661 ?_
  refine Q_callV (ci := 9) hY dL_law_1662 mfX9_isLoop miX9_isLoop msX9_isLoop kL_200 ⟨by decide, rfl⟩ h67 hxc rfl (by omega) rfl rfl (Nat.le_of_ble_eq_true rfl) (by omega) (by omega) (fun r μ2 hq => ?_)
  obtain ⟨x, rfl, n2, L2, μ3, σ3, π3, g3, rfl, hl, k6, l6, e45, e0⟩ := hq
  show zJL _ _ _ _ _ [.int x] _ _ _
  refine Q_istore hT dL_law_1665 (Nat.le_of_ble_eq_true rfl) (by decide) ?_
  show zJL _ _ _ _ (zLv i (some (.int kind)) (some (.int x))) [] _ _ _
  refine Q_tb (E := 1705) hY hZ dL_law_1667 dL_law_1668 dL_law_1671 dL_law_1673 dL_law_1678 dL_law_1680 dL_law_1683 dL_law_1684 dL_law_1685 dL_law_1686 dL_law_1688 dL_law_1691 dL_law_1692 dL_law_1695 dL_law_1696 dL_law_1697 dL_law_1702 (by decide) hl.1 e45 e0 ⟨k6, l6⟩ (by decide) (by omega) (by omega) ?_
  exact (hK n2 L2 μ3 σ3 π3 g3 hl ⟨k6, l6⟩).wide (by omega) (by omega)
