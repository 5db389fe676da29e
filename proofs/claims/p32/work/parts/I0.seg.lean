/-! ===== the law's body, further pieces ===== -/
theorem dD_w (Y : Nat) : ((dD Y).1 = 1 ↔ Y % 12 = 3) ∧ ((dD Y).1 = 2 ↔ Y % 12 = 4) ∧ ((Y % 12 = 3 ∨ Y % 12 = 4) → (dD Y).2.1 = nI (Y / 12 % 6)) := by
  have h12 : Y % 12 = 0 ∨ Y % 12 = 1 ∨ Y % 12 = 2 ∨ Y % 12 = 3 ∨ Y % 12 = 4 ∨ Y % 12 = 5 ∨ Y % 12 = 6 ∨ Y % 12 = 7 ∨ Y % 12 = 8 ∨ Y % 12 = 9 ∨ Y % 12 = 10 ∨ Y % 12 = 11 := by omega
  rcases h12 with hz | hz | hz | hz | hz | hz | hz | hz | hz | hz | hz | hz
  all_goals first
    | (simp [dD, hz]; done)
    | (by_cases z4 : Y / 12 / 5 % 4 = 0 <;> simp [dD, hz, z4])
theorem Dd.held {Y n0 : Nat} {S0 : zS2} {x : Int32} {n : Nat} {S : zS2} (h : Dd Y n0 S0 x n S) (hx : x ≠ -103) {c : Nat} (hc : c < 12) : S 80 c = if Y % 12 = 3 ∧ c = Y / 12 % 6 then 1 else if Y % 12 = 4 ∧ c = Y / 12 % 6 then 0 else S0 80 c := by
  rcases h with ⟨-, h2, -⟩ | ⟨h1, h2, h3, h4, h5, h6⟩
  · exact absurd h2 hx
  · obtain ⟨w1, w2, w3⟩ := dD_w Y
    rw [h6.eq 80 (by decide), do_80 h5, ly_ne S0 n0 _ (by decide)]
    simp only [w1, w2]
    by_cases q3 : Y % 12 = 3
    · rw [w3 (Or.inl q3), nI_clamp (by omega)]
    · by_cases q4 : Y % 12 = 4
      · rw [w3 (Or.inr q4), nI_clamp (by omega)]
      · simp [q3, q4]
/-- the step taken back: the same state as ahead of it -/
theorem Dd.back {Y n0 : Nat} {S0 : zS2} {x : Int32} {n : Nat} {S : zS2} (h : Dd Y n0 S0 x n S) (hx : x ≠ -103) (hV : CV n0 S0) : zq n0 S0 (rpF (zu S 67 42 (nI n0)) n0) := by
  rcases h with ⟨-, h2, -⟩ | ⟨h1, h2, h3, h4, h5, h6⟩
  · exact absurd h2 hx
  · subst h3
    exact back_q hV (zq_trans (ly_q S0 n0 _) (kpS_q _ _ _ _ _ _)) h5.1 h6
theorem zA4_eta (x : zMem) : zA4 x (zI x) (zP x) (zG x) = x := rfl
theorem nI_n103 {r : Nat} (h : r ≤ 12000) : nI r ≠ -103 := fun z => by
  have := nI_pos (n := r) (by omega)
  rw [z] at this
  exact this (by decide)
set_option maxRecDepth 100000 in
set_option maxHeartbeats 4000000 in
theorem seg_c {l : Launch} {Z : zZ} (hE : zEv l Z) {nm : String} {τ : zT} {mc ms : Nat} (hY : zCy l Z τ (mLw nm) 200 mc ms) {F : State → Prop} {b0 : Nat} {n L : Nat} {μ : zMem} {σ : zS2} {π : zP2} {g : zG2} {S : zS2} {c k bf bh : Nat} (hK : lwK μ) (hB : lwB bf bh) (h : PW n L μ σ π S) {i Y n0 : Nat} {x held : Int32} {S0 : zS2} {v11 v12 : Option Value} (hYb : Y < 2147483648) (hV0 : CV n0 S0) (hd : Dd Y n0 S0 x n S) (hh : ∀ c, c < 12 → bt held c = decide (S0 80 c ≠ 0))
    (hnext : ∀ held' : Int32, (∀ c, c < 12 → bt held' c = decide (S 80 c ≠ 0)) → zJL b0 τ F 230 [none, some (.ref 0), some (.ref 67), some (.ref bf), some (.ref bh), some (.int (held')), some (.int 1), some (.int (nI i)), some (.int (nI Y)), some (.int (nI (Y / 12))), some (.int (x)), v11, v12] [] (zA4 μ σ π g) (c) (k)) : zJL b0 τ F 170 [none, some (.ref 0), some (.ref 67), some (.ref bf), some (.ref bh), some (.int (held)), some (.int 1), some (.int (nI i)), some (.int (nI Y)), some (.int (nI (Y / 12))), some (.int (x)), v11, v12] [] (zA4 μ σ π g) (c) (k) := by
  have hT := hY.1
  have hz : Y / 12 < 2147483648 := Nat.lt_of_le_of_lt (Nat.div_le_self _ _) hYb
  rcases hd.told hV0 with ⟨rfl, rfl, hq⟩ | ⟨hn40, rfl, r, d, a, rfl, hr1, hr2, -, -, -, -, -⟩
  · refine Q_iload (i := 10) hT dL_law_170 rfl ?_
    refine Q_if_ge (tgt := 180) hT dL_law_172 (by decide) (fun q => absurd q ((by decide))) (fun _ => ?_)
    refine Q_iload (i := 5) hT dL_law_175 rfl ?_
    refine Q_goto (tgt := 228) hT dL_law_177 (by decide) ?_
    refine Q_istore (i := 5) hT dL_law_228 (Nat.le_of_ble_eq_true rfl) (by decide) ?_
    show zJL b0 τ F _ [none, some (.ref 0), some (.ref 67), some (.ref bf), some (.ref bh), some (.int (held)), some (.int 1), some (.int (nI i)), some (.int (nI Y)), some (.int (nI (Y / 12))), some (.int (-103)), v11, v12] _ _ _ _
    exact hnext held (fun c hc => by rw [hh c hc, hq.eq 80 (by decide)])
  · have hx := nI_n103 hr2
    have e80 := fun c (hc : c < 12) => hd.held hx hc
    by_cases q3 : Y % 12 = 3
    · refine Q_iload (i := 10) hT dL_law_170 rfl ?_
      refine Q_if_ge (tgt := 180) hT dL_law_172 (by decide) (fun _ => ?_) (fun q => absurd ((nI_pos' (n := r) (by omega))) q)
      refine Q_iload (i := 8) hT dL_law_180 rfl ?_
      refine Q_bipush (v := 12) hT dL_law_182 rfl ?_
      refine Q_irem (d := 12) hT dL_law_184 rfl rfl hYb (by decide) (by decide) ?_
      refine Q_iconst (v := 3) hT dL_law_185 rfl ?_
      refine Q_icmp_ne (tgt := 202) hT dL_law_186 (by decide) (fun q => absurd ((by rw [q3]; rfl)) q) (fun _ => ?_)
      refine Q_iload (i := 5) hT dL_law_189 rfl ?_
      refine Q_iconst (v := 1) hT dL_law_191 rfl ?_
      refine Q_iload (i := 9) hT dL_law_192 rfl ?_
      refine Q_bipush (v := 6) hT dL_law_194 rfl ?_
      refine Q_irem (d := 6) hT dL_law_196 rfl rfl hz (by decide) (by decide) ?_
      refine Q_ishl hT dL_law_197 ?_
      refine Q_ior hT dL_law_198 ?_
      refine Q_goto (tgt := 228) hT dL_law_199 (by decide) ?_
      refine Q_istore (i := 5) hT dL_law_228 (Nat.le_of_ble_eq_true rfl) (by decide) ?_
      show zJL b0 τ F _ [none, some (.ref 0), some (.ref 67), some (.ref bf), some (.ref bh), some (.int (held ||| ((1 : Int32) <<< (nI (Y / 12 % 6) &&& 31)))), some (.int 1), some (.int (nI i)), some (.int (nI Y)), some (.int (nI (Y / 12))), some (.int (nI r)), v11, v12] _ _ _ _
      refine hnext _ (fun c hc => ?_)
      rw [held_or held (q := Y / 12 % 6) (by omega) (by omega), hh c hc, e80 c hc]
      by_cases q : c = Y / 12 % 6
      · rw [if_pos ⟨q3, q⟩, decide_eq_true q, Bool.or_true]; rfl
      · rw [if_neg (fun z => q z.2), if_neg (fun z => q z.2), decide_eq_false q, Bool.or_false]
    · by_cases q4 : Y % 12 = 4
      · refine Q_iload (i := 10) hT dL_law_170 rfl ?_
        refine Q_if_ge (tgt := 180) hT dL_law_172 (by decide) (fun _ => ?_) (fun q => absurd ((nI_pos' (n := r) (by omega))) q)
        refine Q_iload (i := 8) hT dL_law_180 rfl ?_
        refine Q_bipush (v := 12) hT dL_law_182 rfl ?_
        refine Q_irem (d := 12) hT dL_law_184 rfl rfl hYb (by decide) (by decide) ?_
        refine Q_iconst (v := 3) hT dL_law_185 rfl ?_
        refine Q_icmp_ne (tgt := 202) hT dL_law_186 (by decide) (fun _ => ?_) (fun q => absurd q ((fun z => q3 ((nI_eq (b := 3) (md (by decide) (by decide)) (by decide)).mp z))))
        refine Q_iload (i := 8) hT dL_law_202 rfl ?_
        refine Q_bipush (v := 12) hT dL_law_204 rfl ?_
        refine Q_irem (d := 12) hT dL_law_206 rfl rfl hYb (by decide) (by decide) ?_
        refine Q_iconst (v := 4) hT dL_law_207 rfl ?_
        refine Q_icmp_ne (tgt := 226) hT dL_law_208 (by decide) (fun q => absurd ((by rw [q4]; rfl)) q) (fun _ => ?_)
        refine Q_iload (i := 5) hT dL_law_211 rfl ?_
        refine Q_iconst (v := 1) hT dL_law_213 rfl ?_
        refine Q_iload (i := 9) hT dL_law_214 rfl ?_
        refine Q_bipush (v := 6) hT dL_law_216 rfl ?_
        refine Q_irem (d := 6) hT dL_law_218 rfl rfl hz (by decide) (by decide) ?_
        refine Q_ishl hT dL_law_219 ?_
        refine Q_iconst (v := -1) hT dL_law_220 rfl ?_
        refine Q_ixor hT dL_law_221 ?_
        refine Q_iand hT dL_law_222 ?_
        refine Q_goto (tgt := 228) hT dL_law_223 (by decide) ?_
        refine Q_istore (i := 5) hT dL_law_228 (Nat.le_of_ble_eq_true rfl) (by decide) ?_
        show zJL b0 τ F _ [none, some (.ref 0), some (.ref 67), some (.ref bf), some (.ref bh), some (.int (held &&& (((1 : Int32) <<< (nI (Y / 12 % 6) &&& 31)) ^^^ (-1)))), some (.int 1), some (.int (nI i)), some (.int (nI Y)), some (.int (nI (Y / 12))), some (.int (nI r)), v11, v12] _ _ _ _
        refine hnext _ (fun c hc => ?_)
        rw [held_and held (q := Y / 12 % 6) (by omega) (by omega), hh c hc, e80 c hc]
        by_cases q : c = Y / 12 % 6
        · rw [if_neg (fun z => q3 z.1), if_pos ⟨q4, q⟩, decide_eq_true q, Bool.not_true, Bool.and_false]; rfl
        · rw [if_neg (fun z => q z.2), if_neg (fun z => q z.2), decide_eq_false q, Bool.not_false, Bool.and_true]
      · refine Q_iload (i := 10) hT dL_law_170 rfl ?_
        refine Q_if_ge (tgt := 180) hT dL_law_172 (by decide) (fun _ => ?_) (fun q => absurd ((nI_pos' (n := r) (by omega))) q)
        refine Q_iload (i := 8) hT dL_law_180 rfl ?_
        refine Q_bipush (v := 12) hT dL_law_182 rfl ?_
        refine Q_irem (d := 12) hT dL_law_184 rfl rfl hYb (by decide) (by decide) ?_
        refine Q_iconst (v := 3) hT dL_law_185 rfl ?_
        refine Q_icmp_ne (tgt := 202) hT dL_law_186 (by decide) (fun _ => ?_) (fun q => absurd q ((fun z => q3 ((nI_eq (b := 3) (md (by decide) (by decide)) (by decide)).mp z))))
        refine Q_iload (i := 8) hT dL_law_202 rfl ?_
        refine Q_bipush (v := 12) hT dL_law_204 rfl ?_
        refine Q_irem (d := 12) hT dL_law_206 rfl rfl hYb (by decide) (by decide) ?_
        refine Q_iconst (v := 4) hT dL_law_207 rfl ?_
        refine Q_icmp_ne (tgt := 226) hT dL_law_208 (by decide) (fun _ => ?_) (fun q => absurd q ((fun z => q4 ((nI_eq (b := 4) (md (by decide) (by decide)) (by decide)).mp z))))
        refine Q_iload (i := 5) hT dL_law_226 rfl ?_
        refine Q_istore (i := 5) hT dL_law_228 (Nat.le_of_ble_eq_true rfl) (by decide) ?_
        show zJL b0 τ F _ [none, some (.ref 0), some (.ref 67), some (.ref bf), some (.ref bh), some (.int (held)), some (.int 1), some (.int (nI i)), some (.int (nI Y)), some (.int (nI (Y / 12))), some (.int (nI r)), v11, v12] _ _ _ _
        exact hnext held (fun c hc => by rw [hh c hc, e80 c hc, if_neg (fun z => q3 z.1), if_neg (fun z => q4 z.1)])

set_option maxRecDepth 100000 in
set_option maxHeartbeats 4000000 in
theorem seg_d {l : Launch} {Z : zZ} (hE : zEv l Z) {nm : String} {τ : zT} {mc ms : Nat} (hY : zCy l Z τ (mLw nm) 200 mc ms) {F : State → Prop} {b0 : Nat} {n L : Nat} {μ : zMem} {σ : zS2} {π : zP2} {g : zG2} {S : zS2} {c k bf bh : Nat} (hK : lwK μ) (hB : lwB bf bh) (h : PW n L μ σ π S) {i : Nat} (hi : i < 36) {held : Int32} {v8 v9 v10 v11 v12 : Option Value} (hc : c ≤ mc) (hk : k ≤ ms) (hh : ∀ c, c < 12 → bt held c = decide (S 80 c ≠ 0))
    (hnext : ∀ (μ1 : zMem) (σ1 : zS2) (π1 : zP2) (g1 : zG2), PW n L μ1 σ1 π1 S → zgr μ μ1 → (∀ b, 67 ≤ b → b < 70 → ∀ j, σ1 b j = σ b j) → zJL b0 τ F 272 [none, some (.ref 0), some (.ref 67), some (.ref bf), some (.ref bh), some (.int (held)), some (.int 1), some (.int (nI i)), v8, v9, v10, v11, v12] [] (zA4 μ1 σ1 π1 g1) (c) (k)) : zJL b0 τ F 230 [none, some (.ref 0), some (.ref 67), some (.ref bf), some (.ref bh), some (.int (held)), some (.int 1), some (.int (nI i)), v8, v9, v10, v11, v12] [] (zA4 μ σ π g) (c) (k) := by
  have hT := hY.1
  refine Q_iload (i := 6) hT dL_law_230 rfl ?_
  refine Q_if_eq (tgt := 269) hT dL_law_232 (by decide) (fun q => absurd q ((by decide))) (fun _ => ?_)
  refine Q_aload_n (i := 1) hT dL_law_235 rfl rfl ?_
  refine Q_iload (i := 5) hT dL_law_236 rfl ?_
  refine Q_callS hY dL_law_238 mfL_fits mtL_fits kL_173 (c_L_fits hE.1 hE.2.1 h hh) rfl (by decide) rfl rfl (Nat.le_of_ble_eq_true rfl) (by omega) (by omega) (fun r μq hq => ?_)
  obtain ⟨rfl, σ1, rfl, hP1, hy1⟩ := hq
  show zJL b0 τ F _ _ [.int 1] (zA4 μ σ1 π g) _ _
  refine Q_if_eq (tgt := 269) hT dL_law_241 (by decide) (fun q => absurd q ((by decide))) (fun _ => ?_)
  refine Q_aload_n (i := 1) hT dL_law_244 rfl rfl ?_
  refine Q_iload (i := 7) hT dL_law_245 rfl ?_
  refine Q_bipush (v := 12) hT dL_law_247 rfl ?_
  refine Q_irem (d := 12) hT dL_law_249 rfl rfl (by omega) (by decide) (by decide) ?_
  refine Q_callW hY dL_law_250 mfL_anew mtL_anew mwL_191 (q_anew hE.1 hE.2.1 hP1 (Nat.mod_lt _ (by decide))) rfl (by decide) rfl rfl (Nat.le_of_ble_eq_true rfl) (by omega) (by omega) (fun r μq hq => ?_)
  obtain ⟨rfl, μ2, σ2, π2, g2, rfl, hP2, hg2, hc2⟩ := hq
  show zJL b0 τ F _ _ [.int (S 88 (i % 12))] (zA4 μ2 σ2 π2 g2) _ _
  refine Q_aload_n (i := 1) hT dL_law_253 rfl rfl ?_
  refine Q_iload (i := 7) hT dL_law_254 rfl ?_
  refine Q_bipush (v := 12) hT dL_law_256 rfl ?_
  refine Q_irem (d := 12) hT dL_law_258 rfl rfl (by omega) (by decide) (by decide) ?_
  refine Q_callW hY dL_law_259 mfL_value mtL_value mwL_114 (q_value hE.1 hP2 (Nat.mod_lt _ (by decide))) rfl (by decide) rfl rfl (Nat.le_of_ble_eq_true rfl) (by omega) (by omega) (fun r μq hq => ?_)
  obtain ⟨rfl, rfl⟩ := hq
  show zJL b0 τ F _ _ [.int (S 88 (i % 12)), .int (S 88 (i % 12))] (zA4 μ2 σ2 π2 g2) _ _
  refine Q_icmp_ne (tgt := 269) hT dL_law_262 (by decide) (fun q => absurd (rfl) q) (fun _ => ?_)
  refine Q_iconst (v := 1) hT dL_law_265 rfl ?_
  refine Q_goto (tgt := 270) hT dL_law_266 (by decide) ?_
  refine Q_istore (i := 6) hT dL_law_270 (Nat.le_of_ble_eq_true rfl) (by decide) ?_
  show zJL b0 τ F _ [none, some (.ref 0), some (.ref 67), some (.ref bf), some (.ref bh), some (.int (held)), some (.int (1)), some (.int (nI i)), v8, v9, v10, v11, v12] _ _ _ _
  exact (hnext μ2 σ2 π2 g2 hP2 hg2 (fun b b1 b2 j => ((hc2 b b1 b2 j).1).trans (hy1 b j (by omega)))).wide (by omega) (by omega)

set_option maxRecDepth 100000 in
set_option maxHeartbeats 4000000 in
theorem seg_e {l : Launch} {Z : zZ} (hE : zEv l Z) {nm : String} {τ : zT} {mc ms : Nat} (hY : zCy l Z τ (mLw nm) 200 mc ms) {F : State → Prop} {b0 : Nat} {n L : Nat} {μ : zMem} {σ : zS2} {π : zP2} {g : zG2} {S : zS2} {c k bf bh : Nat} (hK : lwK μ) (hB : lwB bf bh) (h : PW n L μ σ π S) {i Y n0 : Nat} (hi : i < 36) {x held : Int32} {S0 : zS2} {v11 v12 : Option Value} (hYb : Y < 2147483648) (hV0 : CV n0 S0) (hd : Dd Y n0 S0 x n S) (hc : c + 4 ≤ mc) (hk : k + 85 ≤ ms) (hf : ∀ j, j < 47 → σ bf j = sw n0 S0 j)
    (hnext : ∀ (bf' bh' L' : Nat) (μ1 : zMem) (σ1 : zS2) (π1 : zP2) (g1 : zG2) (S' : zS2) (w11 w12 : Option Value), lwB bf' bh' → PW n L' μ1 σ1 π1 S' → zgr μ μ1 → zq n S S' → zJL b0 τ F 395 [none, some (.ref 0), some (.ref 67), some (.ref bf'), some (.ref bh'), some (.int (held)), some (.int 1), some (.int (nI i)), some (.int (nI Y)), some (.int (nI (Y / 12))), some (.int (x)), w11, w12] [] (zA4 μ1 σ1 π1 g1) (c + 4) (k + 85)) : zJL b0 τ F 272 [none, some (.ref 0), some (.ref 67), some (.ref bf), some (.ref bh), some (.int (held)), some (.int 1), some (.int (nI i)), some (.int (nI Y)), some (.int (nI (Y / 12))), some (.int (x)), v11, v12] [] (zA4 μ σ π g) (c) (k) := by
  have hT := hY.1
  have hn70 := h.cw.nn
  have hb := hB.b
  rcases hd.told hV0 with ⟨rfl, rfl, hq⟩ | ⟨hn40, rfl, r, d, a, rfl, hr1, hr2, -, -, -, -, -⟩
  · refine Q_iload (i := 6) hT dL_law_272 rfl ?_
    refine Q_if_eq (tgt := 395) hT dL_law_274 (by decide) (fun q => absurd q ((by decide))) (fun _ => ?_)
    refine Q_iload (i := 10) hT dL_law_277 rfl ?_
    refine Q_if_le (tgt := 395) hT dL_law_279 (by decide) (fun _ => ?_) (fun q => absurd ((by decide)) q)
    exact (hnext bf bh L μ σ π g S v11 v12 hB h zgr.rf (zq_refl _ _)).wide (by omega) (by omega)
  · have hx := nI_n103 hr2
    by_cases q3 : i % 3 = 0
    · refine Q_iload (i := 6) hT dL_law_272 rfl ?_
      refine Q_if_eq (tgt := 395) hT dL_law_274 (by decide) (fun q => absurd q ((by decide))) (fun _ => ?_)
      refine Q_iload (i := 10) hT dL_law_277 rfl ?_
      refine Q_if_le (tgt := 395) hT dL_law_279 (by decide) (fun q => absurd q ((nI_nle hr1 (by omega)))) (fun _ => ?_)
      refine Q_iload (i := 7) hT dL_law_282 rfl ?_
      refine Q_iconst (v := 3) hT dL_law_284 rfl ?_
      refine Q_irem (d := 3) hT dL_law_285 rfl rfl (by omega) (by decide) (by decide) ?_
      refine Q_if_ne (tgt := 395) hT dL_law_286 (by decide) (fun q => absurd ((by rw [q3]; rfl)) q) (fun _ => ?_)
      refine Q_aload_n (i := 1) hT dL_law_289 rfl rfl ?_
      refine Q_aload (i := 4) hT dL_law_290 rfl ?_
      refine Q_callS hY dL_law_292 mfL_sees mtL_sees kL_180 (c_L_sees hE.1 h (hB.rh μ) (hB.h hK).1 (hB.h hK).2) rfl (by decide) rfl rfl (Nat.le_of_ble_eq_true rfl) (by omega) (by omega) (fun r μq hq => ?_)
      obtain ⟨rfl, σ1, rfl, he1, hs1⟩ := hq
      have hP1 : PW (n0 + 1) L μ σ1 π S := h.row (hB.rh μ) he1
      show zJL b0 τ F _ _ [] (zA4 μ σ1 π g) _ _
      refine Q_aload_n (i := 1) hT dL_law_295 rfl rfl ?_
      refine Q_callW hY dL_law_296 mfL_undo mtL_undo mwL_194 (q_undo hE.1 hE.2.1 hP1) rfl (by decide) rfl rfl (Nat.le_of_ble_eq_true rfl) (by omega) (by omega) (fun r μq hq => ?_)
      obtain ⟨rfl, μ2, σ2, π2, g2, rfl, hP2, hg2, hc2⟩ := hq
      have hK2 : lwK μ2 := hK.mv hg2 hn70
      have hn2 := hP2.cw.nn
      have hqb := hd.back hx hV0
      obtain ⟨S2, hS2⟩ : ∃ y, y = rpF (zu S 67 42 (nI n0)) n0 := ⟨_, rfl⟩
      rw [← hS2] at hP2 hqb
      have f2 : ∀ j, j < 47 → σ2 bf j = sw n0 S0 j := fun j hj => ((hc2 bf hb.1 hb.2.1 j).1).trans ((he1 bf hB.ne j).trans (hf j hj))
      have h2 : ∀ j, j < 47 → σ2 bh j = sw (n0 + 1) S j := fun j hj => ((hc2 bh hb.2.2.1 hb.2.2.2 j).1).trans (hs1 j hj)
      have f46 : zI (zA4 μ2 σ2 π2 g2) bf 46 = nI n0 := f2 46 (by decide)
      show zJL b0 τ F _ _ [.int (nI n0)] (zA4 μ2 σ2 π2 g2) _ _
      refine Q_aload_n (i := 3) hT dL_law_299 rfl rfl ?_
      refine Q_bipush (v := 46) hT dL_law_300 rfl ?_
      refine Q_iald hT dL_law_302 (hB.f hK2).1 (by show zix (nI 46) 46 (zL μ2 bf); rw [(hB.f hK2).2]; exact zix_nI (by decide) (by decide)) ?_
      refine Q_topil (f46) ?_
      refine Q_icmp_ne (tgt := 310) hT dL_law_303 (by decide) (fun q => absurd (rfl) q) (fun _ => ?_)
      refine Q_iconst (v := 1) hT dL_law_306 rfl ?_
      refine Q_goto (tgt := 311) hT dL_law_307 (by decide) ?_
      refine Q_istore (i := 6) hT dL_law_311 (Nat.le_of_ble_eq_true rfl) (by decide) ?_
      show zJL b0 τ F _ [none, some (.ref 0), some (.ref 67), some (.ref bf), some (.ref bh), some (.int (held)), some (.int (1)), some (.int (nI i)), some (.int (nI Y)), some (.int (nI (Y / 12))), some (.int (nI r)), v11, v12] _ _ _ _
      refine Q_aload (i := 4) hT dL_law_313 rfl ?_
      refine Q_astore (i := 11) hT dL_law_315 (by decide) (Nat.le_of_ble_eq_true rfl) ?_
      show zJL b0 τ F _ [none, some (.ref 0), some (.ref 67), some (.ref bf), some (.ref bh), some (.int (held)), some (.int (1)), some (.int (nI i)), some (.int (nI Y)), some (.int (nI (Y / 12))), some (.int (nI r)), some (.ref bh), v12] _ _ _ _
      refine Q_aload_n (i := 3) hT dL_law_317 rfl rfl ?_
      refine Q_astore (i := 4) hT dL_law_318 (by decide) (Nat.le_of_ble_eq_true rfl) ?_
      show zJL b0 τ F _ [none, some (.ref 0), some (.ref 67), some (.ref bf), some (.ref bf), some (.int (held)), some (.int (1)), some (.int (nI i)), some (.int (nI Y)), some (.int (nI (Y / 12))), some (.int (nI r)), some (.ref bh), v12] _ _ _ _
      refine Q_aload (i := 11) hT dL_law_320 rfl ?_
      refine Q_astore_n (i := 3) hT dL_law_322 rfl (by decide) (Nat.le_of_ble_eq_true rfl) ?_
      show zJL b0 τ F _ [none, some (.ref 0), some (.ref 67), some (.ref bh), some (.ref bf), some (.int (held)), some (.int (1)), some (.int (nI i)), some (.int (nI Y)), some (.int (nI (Y / 12))), some (.int (nI r)), some (.ref bh), v12] _ _ _ _
      refine Q_bipush (v := 47) hT dL_law_323 rfl ?_
      refine Q_newI (kd := 0) (n := 47) hT (Or.inl ⟨rfl, rfl⟩) dL_law_325 ac_int rfl (by decide) (by omega) (by omega) ?_
      obtain ⟨μ3, hμ3⟩ : ∃ y, y = zal (zA4 μ2 σ2 π2 g2) 0 47 := ⟨_, rfl⟩
      obtain ⟨rr, hrr⟩ : ∃ y, y = zN μ2 := ⟨_, rfl⟩
      have hg3 : zgr μ2 μ3 := by rw [hμ3]; exact zgr_al (zA4 μ2 σ2 π2 g2) 0 47
      have e3 : ∀ b, b < zN μ2 → ∀ j, zI μ3 b j = σ2 b j ∧ zP μ3 b j = π2 b j := fun b hb2 j => by
        have e0 : zN (zA4 μ2 σ2 π2 g2) = zN μ2 := rfl
        rw [hμ3, zI_al, zP_al, e0, if_neg (Nat.ne_of_lt hb2), if_neg (Nat.ne_of_lt hb2)]
        exact ⟨rfl, rfl⟩
      have hk3 : zK μ3 rr = 0 := by rw [hμ3, zK_al, hrr]; exact if_pos rfl
      have hl3 : zL μ3 rr = 47 := by rw [hμ3, zL_al, hrr]; exact if_pos rfl
      have hn3 : zN μ3 = zN μ2 + 1 := by rw [hμ3, zN_al]; rfl
      have hr3 : lwR μ3 rr := ⟨by omega, Or.inr ⟨hk3, hl3⟩⟩
      have hP3 : PW n0 L μ3 (zI μ3) (zP μ3) S2 := hP2.grow hg3 e3
      have hK3 : lwK μ3 := hK2.mv hg3 hn2
      rw [← hμ3, show zN (zA4 μ2 σ2 π2 g2) = rr from hrr.symm]
      refine Q_mu (μ' := zA4 μ3 (zI μ3) (zP μ3) (zG μ3)) (zA4_eta _).symm ?_
      refine Q_astore (i := 12) hT dL_law_327 (by decide) (Nat.le_of_ble_eq_true rfl) ?_
      show zJL b0 τ F _ [none, some (.ref 0), some (.ref 67), some (.ref bh), some (.ref bf), some (.int (held)), some (.int (1)), some (.int (nI i)), some (.int (nI Y)), some (.int (nI (Y / 12))), some (.int (nI r)), some (.ref bh), some (.ref rr)] _ _ _ _
      refine Q_aload_n (i := 1) hT dL_law_329 rfl rfl ?_
      refine Q_aload (i := 12) hT dL_law_330 rfl ?_
      refine Q_callS hY dL_law_332 mfL_sees mtL_sees kL_180 (c_L_sees hE.1 hP3 hr3 hk3 hl3) rfl (by decide) rfl rfl (Nat.le_of_ble_eq_true rfl) (by omega) (by omega) (fun r μq hq => ?_)
      obtain ⟨rfl, σ4, rfl, he4, hs4⟩ := hq
      have hP4 : PW n0 L μ3 σ4 (zP μ3) S2 := hP3.row hr3 he4
      have f4 : ∀ j, j < 47 → σ4 bf j = sw n0 S0 j := fun j hj => (he4 bf (by omega) j).trans (((e3 bf (by omega) j).1).trans (f2 j hj))
      have h4 : ∀ j, j < 47 → σ4 bh j = sw (n0 + 1) S j := fun j hj => (he4 bh (by omega) j).trans (((e3 bh (by omega) j).1).trans (h2 j hj))
      have ea : ∀ j, j < 47 → σ4 rr j = σ4 bf j := fun j hj => by rw [hs4 j hj, f4 j hj, sw_q hqb]
      show zJL b0 τ F _ _ [] (zA4 μ3 σ4 (zP μ3) (zG μ3)) _ _
      refine Q_iload (i := 6) hT dL_law_335 rfl ?_
      refine Q_if_eq (tgt := 365) hT dL_law_337 (by decide) (fun q => absurd q ((by decide))) (fun _ => ?_)
      refine Q_aload (i := 12) hT dL_law_340 rfl ?_
      refine Q_aload (i := 4) hT dL_law_342 rfl ?_
      refine Q_callS hY dL_law_344 mfL_areAlike mtL_areAlike kL_187 (c_L_areAlike hE.1 ⟨hk3, hl3⟩ (hB.f hK3) ea) rfl (by decide) rfl rfl (Nat.le_of_ble_eq_true rfl) (by omega) (by omega) (fun r μq hq => ?_)
      obtain ⟨rfl, rfl⟩ := hq
      show zJL b0 τ F _ _ [.int 1] _ _ _
      refine Q_if_eq (tgt := 365) hT dL_law_347 (by decide) (fun q => absurd q ((by decide))) (fun _ => ?_)
      refine Q_aload_n (i := 1) hT dL_law_350 rfl rfl ?_
      refine Q_iload (i := 8) hT dL_law_351 rfl ?_
      refine Q_callS hY dL_law_353 mfL_does mtL_does kL_184 (c_L_does hE.1 hE.2.1 hE.2.2.1 hE.2.2.2.1 hE.2.2.2.2 hP4 hYb) rfl (by decide) rfl rfl (Nat.le_of_ble_eq_true rfl) (by omega) (by omega) (fun r μq hq => ?_)
      obtain ⟨x5, rfl, n5, L5, μ5, σ5, π5, g5, S5, rfl, hP5, hg5, hc5, hd5⟩ := hq
      have hag := Did.again hd hd5 hqb (dRf_q hqb Y n0)
      obtain ⟨ha1, ha2, ha3⟩ := hag
      subst ha2
      have hn3' := hP4.cw.nn
      have hk5 : zK μ5 rr = 0 := (hg5.2 rr (by omega)).1.trans hk3
      have hl5 : zL μ5 rr = 47 := (hg5.2 rr (by omega)).2.trans hl3
      have hr5 : lwR μ5 rr := ⟨by omega, Or.inr ⟨hk5, hl5⟩⟩
      have hK5 : lwK μ5 := hK3.mv hg5 hn3'
      show zJL b0 τ F _ _ [.int x5] (zA4 μ5 σ5 π5 g5) _ _
      refine Q_iload (i := 10) hT dL_law_356 rfl ?_
      refine Q_icmp_ne (tgt := 365) hT dL_law_358 (by decide) (fun q => absurd (ha1) q) (fun _ => ?_)
      refine Q_iconst (v := 1) hT dL_law_361 rfl ?_
      refine Q_goto (tgt := 366) hT dL_law_362 (by decide) ?_
      refine Q_istore (i := 6) hT dL_law_366 (Nat.le_of_ble_eq_true rfl) (by decide) ?_
      show zJL b0 τ F _ [none, some (.ref 0), some (.ref 67), some (.ref bh), some (.ref bf), some (.int (held)), some (.int (1)), some (.int (nI i)), some (.int (nI Y)), some (.int (nI (Y / 12))), some (.int (nI r)), some (.ref bh), some (.ref rr)] _ _ _ _
      refine Q_aload_n (i := 1) hT dL_law_368 rfl rfl ?_
      refine Q_aload (i := 12) hT dL_law_369 rfl ?_
      refine Q_callS hY dL_law_371 mfL_sees mtL_sees kL_180 (c_L_sees hE.1 hP5 hr5 hk5 hl5) rfl (by decide) rfl rfl (Nat.le_of_ble_eq_true rfl) (by omega) (by omega) (fun r μq hq => ?_)
      obtain ⟨rfl, σ6, rfl, he6, hs6⟩ := hq
      have hP6 : PW (n0 + 1) L5 μ5 σ6 π5 S5 := hP5.row hr5 he6
      have eb : ∀ j, j < 47 → σ6 rr j = σ6 bh j := fun j hj => by rw [hs6 j hj, he6 bh (by omega) j, (hc5 bh hb.2.2.1 hb.2.2.2 j).1, h4 j hj, sw_q ha3]
      show zJL b0 τ F _ _ [] (zA4 μ5 σ6 π5 g5) _ _
      refine Q_iload (i := 6) hT dL_law_374 rfl ?_
      refine Q_if_eq (tgt := 392) hT dL_law_376 (by decide) (fun q => absurd q ((by decide))) (fun _ => ?_)
      refine Q_aload (i := 12) hT dL_law_379 rfl ?_
      refine Q_aload_n (i := 3) hT dL_law_381 rfl rfl ?_
      refine Q_callS hY dL_law_382 mfL_areAlike mtL_areAlike kL_187 (c_L_areAlike hE.1 ⟨hk5, hl5⟩ (hB.h hK5) eb) rfl (by decide) rfl rfl (Nat.le_of_ble_eq_true rfl) (by omega) (by omega) (fun r μq hq => ?_)
      obtain ⟨rfl, rfl⟩ := hq
      show zJL b0 τ F _ _ [.int 1] _ _ _
      refine Q_if_eq (tgt := 392) hT dL_law_385 (by decide) (fun q => absurd q ((by decide))) (fun _ => ?_)
      refine Q_iconst (v := 1) hT dL_law_388 rfl ?_
      refine Q_goto (tgt := 393) hT dL_law_389 (by decide) ?_
      refine Q_istore (i := 6) hT dL_law_393 (Nat.le_of_ble_eq_true rfl) (by decide) ?_
      show zJL b0 τ F _ [none, some (.ref 0), some (.ref 67), some (.ref bh), some (.ref bf), some (.int (held)), some (.int (1)), some (.int (nI i)), some (.int (nI Y)), some (.int (nI (Y / 12))), some (.int (nI r)), some (.ref bh), some (.ref rr)] _ _ _ _
      exact (hnext bh bf L5 μ5 σ6 π5 g5 S5 _ _ hB.sw hP6 ((hg2.tr hg3).tr hg5) ha3).wide (by omega) (by omega)
    · refine Q_iload (i := 6) hT dL_law_272 rfl ?_
      refine Q_if_eq (tgt := 395) hT dL_law_274 (by decide) (fun q => absurd q ((by decide))) (fun _ => ?_)
      refine Q_iload (i := 10) hT dL_law_277 rfl ?_
      refine Q_if_le (tgt := 395) hT dL_law_279 (by decide) (fun q => absurd q ((nI_nle hr1 (by omega)))) (fun _ => ?_)
      refine Q_iload (i := 7) hT dL_law_282 rfl ?_
      refine Q_iconst (v := 3) hT dL_law_284 rfl ?_
      refine Q_irem (d := 3) hT dL_law_285 rfl rfl (by omega) (by decide) (by decide) ?_
      refine Q_if_ne (tgt := 395) hT dL_law_286 (by decide) (fun _ => ?_) (fun q => absurd q ((nI_ne0 (Nat.pos_of_ne_zero q3) (by omega))))
      exact (hnext bf bh L μ σ π g S v11 v12 hB h zgr.rf (zq_refl _ _)).wide (by omega) (by omega)

