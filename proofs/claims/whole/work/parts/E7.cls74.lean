/-! ===== the law's beginning ===== -/
section ZB
variable {b0 : Nat} {τ : zT} {M : zM} {kk mc ms : Nat} {F : State → Prop} {pc : Nat} {L : List (Option Value)} {st : List Value} {μ : zMem} {c k : Nat}
theorem Q_newG (hT : zCx τ M kk mc ms) {n : Nat} {i : Int32} (hd : decode M.2.1 pc = .ok (.newarray .long, 2)) (hw1 : Cond.arrayClass .long ∈ ztb) (hi : i = nI n) (hn : n ≤ 100000) (hc : c + 1 ≤ mc) (hs : k + n ≤ ms)
    (h : zJL b0 τ F (pc + 2) L (.ref (zN μ) :: st) (zal μ 3 n) (c + 1) (k + n)) : zJL b0 τ F pc L (.int i :: st) μ c k := by
  intro ad H locs ls hw hL hz0 hst
  subst hi
  have hC := hT.2.2.2.2.2.2.2.2.2.2.2.2.2
  refine va_newa (N' := n) (a0 := (n, .inr (.inl (fun _ => 0)))) (atype := .long) (ty := .long) hT.1 hT.2.1 (hT.ws _ hw1) rfl hT.K hw.1.1 hw.1.2.1 hw.2.1 hT.A (fun cA => by rw [vp_cell_l]; rfl) (nI_pos (by omega)) (nI_clamp (by omega)) (by show n * 8 ≤ _; omega) (by omega) (by omega) hd (fun q cA H1 q0 q1 q2 q3 => ?_)
  have hcA : cA = τ.2.2.2.2.2.2.2.2.2.2.1.2.2 3 := by
    have g1 := (q0.2 8 (cA, .long) (by rw [List.getElem?_append_right (by simp [ztys])]; simp [ztys])).2
    have g2 := (hT.K.2 3 _ (ztys_at _ (by omega))).2
    exact Option.some.inj (Eq.trans (Eq.symm g1) g2)
  subst hcA
  have hw2 := zHS_al (kd := 3) (n := n) (q := q) hw (by rw [zent_g (by simp [zK_al]), show zG (zal μ 3 n) (zN μ) = (fun _ => 0) from by funext j; simp [zG_al], show zL (zal μ 3 n) (zN μ) = n from by simp [zL_al]]) q1 q2 q3
  have hL2 := zLo_mono (ad' := fun a => if a = zN μ then q else ad a) (m := zN μ + 1) hL (fun a ha => by show (if a = zN μ then q else ad a) = _; rw [if_neg (by omega)]) (by omega)
  have h3 := h _ H1 locs ls hw2 hL2 hz0 (zoks_cons (zok_ref (by rw [zN_al]; omega)) (zoks_mono (zoks_tl hst) (by rw [zN_al]; omega)))
  rw [List.map_cons, ztv_ref, if_pos rfl, ztv_congrs (zoks_tl hst) (fun a ha => by show (if a = zN μ then q else ad a) = _; rw [if_neg (by omega)])] at h3
  exact h3
theorem Q_new (hT : zCx τ M kk mc ms) {ci idx : Nat} (h10 : ci < 10) (hd : decode M.2.1 pc = .ok (.new idx, 3)) (hw1 : Cond.classLink M.1.cls idx (zRX ci) ∈ ztb) (hw2 : Cond.instantiable (zRX ci) (znf ci) ∈ ztb) (hw3 : Cond.initialized (zRX ci) ∈ ztb) (hdv : ∀ j, j < znf ci → defaultValue (zfty ci j) = zfv id (zfty ci j) 0 none) (hc : c + 1 ≤ mc) (hs : k + znf ci ≤ ms)
    (h : zJL b0 τ F (pc + 3) L (.ref (zN μ) :: st) (zal μ (ci + 8) 0) (c + 1) (k + znf ci)) : zJL b0 τ F pc L st μ c k := by
  intro ad H locs ls hw hL hz0 hst
  have hC := hT.2.2.2.2.2.2.2.2.2.2.2.2.2
  refine va_new (fs := (List.range (znf ci)).map (fun j => zfv id (zfty ci j) 0 none)) hT.1 hT.2.1 hT.ws (zlays ci h10) (zfty ci) (ztyok ci h10) hT.own (hT.ws _ hw1) (hT.ws _ hw2) (hT.ws _ hw3) hT.K hw.1.1 hw.1.2.1 hw.2.1 hT.A (zcl_at ci h10) (fun j hj => by rw [hdv j hj]; simp [vp_V, hj]) (by omega) (by omega) hd (fun q H1 q1 q2 q3 => ?_)
  have hw2 := zHS_al (kd := ci + 8) (n := 0) (q := q) hw (by rw [zent_o (ci := ci) (by simp [zK_al])]; simp only [zI_al, zP_al, if_true, zfv, Option.map_none]) q1 q2 q3
  have hL2 := zLo_mono (ad' := fun a => if a = zN μ then q else ad a) (m := zN μ + 1) hL (fun a ha => by show (if a = zN μ then q else ad a) = _; rw [if_neg (by omega)]) (by omega)
  have h3 := h _ H1 locs ls hw2 hL2 hz0 (zoks_cons (zok_ref (by rw [zN_al]; omega)) (zoks_mono hst (by rw [zN_al]; omega)))
  rw [List.map_cons, ztv_ref, if_pos rfl, ztv_congrs hst (fun a ha => by show (if a = zN μ then q else ad a) = _; rw [if_neg (by omega)])] at h3
  exact h3
theorem zL1 {ls' : Array Slot} {n i b0 : Nat} {v : Value} {lv : List (Nat × Value)} (hi : 0 < i) (h' : lv_has ls' n ((i, v) :: ((0, .ref b0) :: lv).filter (fun q => !(q.1 == i) && !(q.1 + 1 == i && q.2.category == 2)))) : ls'[0]? = some (.val (.ref b0)) ∧ lv_has ls' n ((i, v) :: lv.filter (fun q => !(q.1 == i) && !(q.1 + 1 == i && q.2.category == 2))) := by
  have h0 : ((0 == i) : Bool) = false := beq_eq_false_iff_ne.mpr (by omega)
  have e : ((0, Value.ref b0) :: lv).filter (fun q => !(q.1 == i) && !(q.1 + 1 == i && q.2.category == 2)) = (0, Value.ref b0) :: lv.filter (fun q => !(q.1 == i) && !(q.1 + 1 == i && q.2.category == 2)) := by
    rw [List.filter_cons_of_pos]
    have c1 : ((Value.ref b0).category == 2) = false := rfl
    simp only [h0, c1, Bool.not_false, Bool.and_false, Bool.and_self]
  rw [e] at h'
  refine ⟨h'.2.2 (0, .ref b0) (List.mem_cons_of_mem _ List.mem_cons_self), h'.1, h'.2.1, fun q hq => ?_⟩
  rcases List.mem_cons.mp hq with rfl | hq
  · exact h'.2.2 _ List.mem_cons_self
  · exact h'.2.2 _ (List.mem_cons_of_mem _ (List.mem_cons_of_mem _ hq))
theorem Q_astore_n (hT : zCx τ M kk mc ms) {q : Fin 4} {i : Nat} {x : Nat} (hd : decode M.2.1 pc = .ok (.astore_n q, 1)) (hi : (q : Nat) = i) (h0 : 0 < i) (hl : (i + 0 < L.length)) (h : zJL b0 τ F (pc + 1) (zst1 L i (.ref x)) st μ c k) : zJL b0 τ F pc L (.ref x :: st) μ c k := by
  intro ad H locs ls hw hL hz0 hst
  exact lv_astore_n (lv := (0, .ref b0) :: zlv ad L) hT.1 hT.2.1 hd hi (zLo_has0 hL hz0) hl rfl (fun ls' h' => h ad H locs ls' hw (zLo_st1 (v := .ref x) hL (zoks_hd hst) (zL1 h0 h').2) (zL1 h0 h').1 (zoks_tl hst))
theorem Q_mu {μ' : zMem} (e : μ = μ') (h : zJL b0 τ F pc L st μ' c k) : zJL b0 τ F pc L st μ c k := e ▸ h
end ZB
section ZBC
variable {b0 : Nat} {l : Launch} {Z : zZ} {τ : zT} {M : zM} {kk mc ms : Nat} {F : State → Prop} {pc : Nat} {L : List (Option Value)} {st : List Value} {μ : zMem} {c k : Nat}
theorem Q_callI (hY : zCy l Z τ M kk mc ms) {m : zM} {n k' mc' ms' idx b : Nat} {as stk : List Value} {Q' : Option Value → zMem → Prop} (hd : decode M.2.1 pc = .ok (.invokespecial idx, 3)) (hm : zMf m n) (hret : m.2.2.2 = none) (hini : m.1.name = "<init>") (hins : Cond.instanceMethod m.1 ∈ ztb) (hlink : Cond.methodLink M.1.cls idx m.1 ∈ ztb ∨ ∃ host, Cond.methodLinkNest M.1.cls idx m.1 host ∈ lw_tbl)
    (ct : zCt l Z m k' mc' ms' (.ref b :: as) μ Q') (hn : as.length = n) (hkk : k' < kk) (hs : stk = as.reverse ++ .ref b :: st) (hL : L.length = M.2.2.1) (h8 : (st.map fun v => v.category).sum ≤ 8) (hc : c + mc' ≤ mc) (hk : k + ms' ≤ ms)
    (h : ∀ (r : Option Value) (μ' : zMem), Q' r μ' → zJL b0 τ F (pc + 3) L (r.toList ++ st) μ' (c + mc') (k + ms')) : zJL b0 τ F pc L stk μ c k := by
  intro ad H locs ls hw hLo hz0 hst
  subst hs
  obtain ⟨hT, el, eZ⟩ := hY
  subst el; subst eZ
  obtain ⟨_, _, _, _, _, _, _, _, _, hWm, hB, hfr, hlo, hcc, hss⟩ := id hT
  have hst1 : zoks (zN μ) st := fun v hv => hst v (List.mem_append_right _ (List.mem_cons_of_mem _ hv))
  have hob : zok (zN μ) (.ref b) := hst _ (List.mem_append_right _ List.mem_cons_self)
  have hoa : zoks (zN μ) (.ref b :: as) := zoks_cons hob fun v hv => hst v (List.mem_append_left _ (List.mem_reverse.mpr hv))
  have hp : PreS τ.2.2.2.2.1 H (zPc τ.2.2.2.2.2.2.2.2.2.2.1 ad μ (.ref b :: as)) (.ref (ad b) :: as.map (ztv ad)) := ⟨zPc_blind _ _ _ _, fun U hU hWU => ⟨rfl, hWm.trans hWU, by rw [hU]; exact hw.1, by rw [hU]; exact zHS.B hT hw⟩⟩
  have hst0 : (as.reverse ++ .ref b :: st).map (ztv ad) = (as.map (ztv ad)).reverse ++ .ref (ad b) :: st.map (ztv ad) := by rw [List.map_append, List.map_reverse]; rfl
  obtain ⟨y, cb, mL, rt⟩ := m
  dsimp only at hret hini
  subst hret
  rcases hlink with hlink | ⟨host, hlink⟩
  · refine zbackL hT hw hLo hz0 hst1 (va_runI (Ts := ztb) ⟨hT.1, hT.2.1, hT.2.2.1, hT.own, hT.ws⟩ (ct ad hoa) ⟨callB_of n hT.ws (zpay hm) rfl rfl rfl (hT.ws _ hm.2.1) (hT.ws _ hlink) hm.2.2.1 (zroom hkk hfr hlo hm.2.2.2 mc' ms'), hini, hT.ws _ hins⟩ hp rfl (by rw [List.length_map]; exact hn) (hLo.1.trans hL) hst0 (lv_room (by rw [zcat8]; exact h8)) hd ⟨by omega, by omega⟩) h
  · refine zbackL hT hw hLo hz0 hst1 (va_runIN (Ts := ztb) ⟨hT.1, hT.2.1, hT.2.2.1, hT.own, hT.ws⟩ (ct ad hoa) ⟨va_cnB n hT.ws (zpay hm) rfl rfl rfl (hT.nestM hlink) (hT.ws _ hm.2.1) hm.2.2.1 (zroom hkk hfr hlo hm.2.2.2 mc' ms'), hini, hT.ws _ hins⟩ hp rfl (by rw [List.length_map]; exact hn) (hLo.1.trans hL) hst0 (lv_room (by rw [zcat8]; exact h8)) hd ⟨by omega, by omega⟩) h
end ZBC
def zM0 : zMem := (0, fun _ => 0, fun _ => 0, fun _ _ => 0, fun _ _ => none, fun _ _ => 0)
theorem zA4_eta (x : zMem) : zA4 x (zI x) (zP x) (zG x) = x := rfl
/-- the law's own row is no part of it -/
theorem LW.o {n L : Nat} {μ μ' : zMem} {σ σ' : zS2} {π π' : zP2} (h : LW n L μ σ π) (hg : zgr μ μ') (e : ∀ b, b ≠ 106 → ∀ j, σ' b j = σ b j ∧ π' b j = π b j) : LW n L μ' σ' π' := by
  have hn := h.cw.nn
  have es : ∀ b, b ≠ 106 → ∀ j, σ' b j = σ b j := fun b hb j => (e b hb j).1
  have h1 : ∀ b, b ∈ zqL → b ≠ 106 := by decide
  have h2 : ∀ b, b ∈ [98, 99, 100, 101, 102, 104] → b ≠ 106 := by decide
  have q : zq n σ σ' := zq_of (fun b hb j => es b (h1 b hb) j) (es 67 (by decide) 33) (es 67 (by decide) 34) (fun s _ _ => ⟨es 93 (by decide) s, es 94 (by decide) s⟩) (fun c _ _ => es 81 (by decide) c) (fun c k _ _ => es 74 (by decide) _) (fun b hb k _ => es b (h2 b hb) k) (fun k _ i _ => es 103 (by decide) _)
  have hR : zRef μ' π' := by
    refine ⟨(hg.2 67 (by omega)).1.trans h.1.1, fun j a kd m hx => ?_⟩
    obtain ⟨r1, r2, r3⟩ := h.1.2 j a kd m hx
    have ha : a < 107 := (by decide : ∀ x, x ∈ zrl → x.2.1 < 107) _ hx
    exact ⟨((e 67 (by decide) j).2).trans r1, ((hg.2 a (by omega)).1).trans r2, ((hg.2 a (by omega)).2).trans r3⟩
  exact ⟨hR, h.2.1.q q (es 67 (by decide) 42), h.2.2.1.mv (es 67 (by decide) 1) (fun i => es 68 (by decide) i), fun k => by unfold stN; rw [es 104 (by decide)]; exact h.2.2.2.1 k, (h.cw.zq q (es 67 (by decide) 1) (fun i => es 68 (by decide) i) (fun k _ => h.2.2.2.1 k)).out hg (fun b hb _ j => e b (by omega) j)⟩
set_option maxRecDepth 100000 in
set_option maxHeartbeats 4000000 in
theorem law_walk {l : Launch} {Z : zZ} (hE : zEv l Z) {nm : String} {τ : zT} {mc ms : Nat} (hY : zCy l Z τ (mLw nm) 200 mc ms) (hmc : 2000 ≤ mc) (hms : 30000 ≤ ms) {F : State → Prop} {b0 N : Nat} {xs : Nat → Int32} (hX : zScr b0 N xs τ) (hN : N ≤ 2048)
    (hEnd : ∀ i n L μ σ π g c k, LW n L μ σ π → c ≤ mc → k ≤ ms → zJL b0 τ F 1711 (zLc i) [] (zA4 μ σ π g) c k) : zJL b0 τ F 0 [none, none, none, none, none, none, none] [] zM0 0 0 := by
  have hT := hY.1
  have hZ := hE.1
  refine Q_new (ci := 8) hT (by decide) dL_law_0 kcL_8 inX8 itX8 (by decide) (by omega) (by show 0 + 7 ≤ ms; omega) ?_
  refine Q_dup hT dL_law_3 rfl ?_
  obtain ⟨μ1, hμ1⟩ : ∃ μ1, μ1 = zal zM0 (8 + 8) 0 := ⟨_, rfl⟩
  have n1 : zN μ1 = 1 := by rw [hμ1]; rfl
  have k1 : zK μ1 0 = 8 + 8 := by rw [hμ1]; rfl
  refine Q_mu (μ' := zA4 μ1 (zI μ1) (zP μ1) (zG μ1)) (by rw [zA4_eta, hμ1]) ?_
  refine Q_callI (b := 0) hY dL_law_4 mfX8_init rfl rfl miX8_init kL_94 (c_X8_init hZ k1 n1) rfl (by decide) rfl rfl (Nat.le_of_ble_eq_true rfl) (by omega) (by show 0 + 7 + 552 ≤ ms; omega) (fun r μ2 hq => ?_)
  obtain ⟨rfl, σ1, π1, g1, rfl, hD⟩ := hq
  show zJL _ _ _ _ _ [.ref 0] _ _ _
  refine Q_astore_n (i := 1) hT dL_law_7 rfl (by decide) (by decide) ?_
  show zJL _ _ _ _ [none, some (.ref 0), none, none, none, none, none] [] _ _ _
  refine Q_new (ci := 9) hT (by decide) dL_law_8 kcL_95 inX9 itX9 (by decide) (by omega) (by show 0 + 7 + 552 + 46 ≤ ms; omega) ?_
  refine Q_dup hT dL_law_11 rfl ?_
  obtain ⟨ν, hν⟩ : ∃ ν, ν = zA4 (zals μ1 dl) σ1 π1 g1 := ⟨_, rfl⟩
  have nν : zN ν = 67 := by rw [hν]; show zN (zals μ1 dl) = 67; rw [zals_N, n1]; rfl
  rw [← hν, nν]
  obtain ⟨μ2, hμ2⟩ : ∃ μ2, μ2 = zal ν (9 + 8) 0 := ⟨_, rfl⟩
  have n2 : zN μ2 = 68 := by rw [hμ2, zN_al, nν]
  have k2 : zK μ2 67 = 9 + 8 := by rw [hμ2, zK_al, nν]; exact if_pos rfl
  have z2 : ∀ j, zI μ2 67 j = 0 ∧ zG μ2 67 j = 0 := fun j => by rw [hμ2, zI_al, zG_al, nν]; exact ⟨if_pos rfl, if_pos rfl⟩
  refine Q_mu (μ' := zA4 μ2 (zI μ2) (zP μ2) (zG μ2)) (by rw [zA4_eta, hμ2]) ?_
  refine Q_callI (b := 67) hY dL_law_12 mfX9_init rfl rfl miX9_init kL_97 (c_X9_init hZ k2 n2 z2) rfl (by decide) rfl rfl (Nat.le_of_ble_eq_true rfl) (by omega) (by show 0 + 7 + 552 + 46 + 2228 ≤ ms; omega) (fun r μ3 hq => ?_)
  obtain ⟨rfl, σ2, π2, g2, rfl, hRK⟩ := hq
  show zJL _ _ _ _ _ [.ref 67] _ _ _
  refine Q_astore_n (i := 2) hT dL_law_15 rfl (by decide) (by decide) ?_
  show zJL _ _ _ _ [none, some (.ref 0), some (.ref 67), none, none, none, none] [] _ _ _
  refine Q_iconst (v := 1) hT dL_law_16 rfl ?_
  refine Q_newG (n := 1) hT dL_law_17 ac_long rfl (by decide) (by omega) (by show 0 + 7 + 552 + 46 + 2228 + 1 ≤ ms; omega) ?_
  obtain ⟨ρ, hρ⟩ : ∃ ρ, ρ = zA4 (zals μ2 rlL) (beginF σ2) π2 g2 := ⟨_, rfl⟩
  have nρ : zN ρ = 106 := by rw [hρ]; show zN (zals μ2 rlL) = 106; rw [zals_N, n2]; rfl
  rw [← hρ, nρ]
  refine Q_astore_n (i := 3) hT dL_law_19 rfl (by decide) (by decide) ?_
  show zJL _ _ _ _ [none, some (.ref 0), some (.ref 67), some (.ref 106), none, none, none] [] _ _ _
  refine Q_iconst (v := 0) hT dL_law_20 rfl ?_
  refine Q_istore (i := 4) hT dL_law_21 (by decide) (by decide) ?_
  show zJL _ _ _ _ (zLc 0) [] _ _ _
  obtain ⟨μ4, hμ4⟩ : ∃ μ4, μ4 = zal ρ 3 1 := ⟨_, rfl⟩
  rw [← hμ4]
  refine Q_mu (μ' := zA4 μ4 (zI μ4) (zP μ4) (zG μ4)) (zA4_eta _).symm ?_
  have g34 : zgr ρ μ4 := by rw [hμ4]; exact zgr_al ρ 3 1
  have g23 : zgr μ2 ρ := by rw [hρ]; exact zals_gr μ2 rlL
  have g12 : zgr (zals μ1 dl) μ2 := by
    have e : zgr ν μ2 := by rw [hμ2]; exact zgr_al ν (9 + 8) 0
    rw [hν] at e
    exact e
  have hg : zgr (zals μ1 dl) μ4 := (g12.tr g23).tr g34
  have n4 : zN μ4 = 107 := by rw [hμ4, zN_al, nρ]
  have hR3 : zRef (zals μ2 rlL) π2 := hRK.ref n2 k2
  have hR4 : zRef μ4 π2 := by
    have e : ∀ a, a < 106 → zK μ4 a = zK (zals μ2 rlL) a ∧ zL μ4 a = zL (zals μ2 rlL) a := fun a ha => by
      have := g34.2 a (by omega)
      rw [hρ] at this
      exact this
    refine ⟨(e 67 (by decide)).1.trans hR3.1, fun j a kd m hx => ?_⟩
    obtain ⟨r1, r2, r3⟩ := hR3.2 j a kd m hx
    have ha : a < 106 := (by decide : ∀ x, x ∈ zrl → x.2.1 < 106) _ hx
    exact ⟨r1, (e a ha).1.trans r2, (e a ha).2.trans r3⟩
  have hs : ∀ b, b < 67 → ∀ j, zI μ2 b j = σ1 b j ∧ zP μ2 b j = π1 b j := fun b hb j => by
    rw [hμ2, zI_al, zP_al, nν, if_neg (by omega), if_neg (by omega), hν]
    exact ⟨rfl, rfl⟩
  have hL0 : LW 0 0 μ4 (beginF σ2) π2 := start_lw (g1 := g1) k1 n1 hD hRK hs hg (by omega) hR4
  have hL1 : LW 0 0 μ4 (zI μ4) (zP μ4) := hL0.o zgr.rf (fun b hb j => by
    rw [hμ4, zI_al, zP_al, nρ, if_neg hb, if_neg hb, hρ]
    exact ⟨rfl, rfl⟩)
  have h6 : zK μ4 106 = 3 ∧ zL μ4 106 = 1 := by
    rw [hμ4, zK_al, zL_al, nρ]
    exact ⟨if_pos rfl, if_pos rfl⟩
  exact law_loop hE hY hX hN hEnd 513 0 0 0 μ4 (zI μ4) (zP μ4) (zG μ4) _ _ (by decide) (by omega) (by omega) (by show 0 + 7 + 552 + 46 + 2228 + 1 + 38 * 513 ≤ ms; omega) hL1 h6
