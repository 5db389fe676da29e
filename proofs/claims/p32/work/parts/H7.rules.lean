/-! ===== the law's own walk: more rules ===== -/
section ZL7
variable {b0 : Nat} {τ : zT} {M : zM} {kk mc ms : Nat} {F : State → Prop} {pc : Nat} {L : List (Option Value)} {st : List Value} {μ : zMem} {c k : Nat}
theorem Q_sipush (hT : zCx τ M kk mc ms) {n : Int} {v : Int32} (hd : decode M.2.1 pc = .ok (.sipush n, 3)) (hv : (Int16.ofInt n).toInt32 = v) (h : zJL b0 τ F (pc + 3) L (.int v :: st) μ c k) : zJL b0 τ F pc L (st) μ c k := by
  intro ad H locs ls hw hL hz0 hst
  refine lv_sipush hT.1 hT.2.1 hd hv ?_
  exact h ad H locs ls hw hL hz0 (zoks_cons (zok_int _ _) hst)
theorem Q_imul (hT : zCx τ M kk mc ms) {x y : Int32} (hd : decode M.2.1 pc = .ok (.imul, 1)) (h : zJL b0 τ F (pc + 1) L (.int (x * y) :: st) μ c k) : zJL b0 τ F pc L (.int y :: .int x :: st) μ c k := by
  intro ad H locs ls hw hL hz0 hst
  refine lv_imul hT.1 hT.2.1 hd ?_
  have hst := zoks_tl hst
  have hst := zoks_tl hst
  exact h ad H locs ls hw hL hz0 (zoks_cons (zok_int _ _) hst)
theorem Q_ior (hT : zCx τ M kk mc ms) {x y : Int32} (hd : decode M.2.1 pc = .ok (.ior, 1)) (h : zJL b0 τ F (pc + 1) L (.int (x ||| y) :: st) μ c k) : zJL b0 τ F pc L (.int y :: .int x :: st) μ c k := by
  intro ad H locs ls hw hL hz0 hst
  refine lv_ior hT.1 hT.2.1 hd ?_
  have hst := zoks_tl hst
  have hst := zoks_tl hst
  exact h ad H locs ls hw hL hz0 (zoks_cons (zok_int _ _) hst)
theorem Q_ixor (hT : zCx τ M kk mc ms) {x y : Int32} (hd : decode M.2.1 pc = .ok (.ixor, 1)) (h : zJL b0 τ F (pc + 1) L (.int (x ^^^ y) :: st) μ c k) : zJL b0 τ F pc L (.int y :: .int x :: st) μ c k := by
  intro ad H locs ls hw hL hz0 hst
  refine lv_ixor hT.1 hT.2.1 hd ?_
  have hst := zoks_tl hst
  have hst := zoks_tl hst
  exact h ad H locs ls hw hL hz0 (zoks_cons (zok_int _ _) hst)
theorem Q_ishl (hT : zCx τ M kk mc ms) {x y : Int32} (hd : decode M.2.1 pc = .ok (.ishl, 1)) (h : zJL b0 τ F (pc + 1) L (.int (x <<< (y &&& 31)) :: st) μ c k) : zJL b0 τ F pc L (.int y :: .int x :: st) μ c k := by
  intro ad H locs ls hw hL hz0 hst
  refine lv_ishl hT.1 hT.2.1 hd ?_
  exact h ad H locs ls hw hL hz0 (zoks_cons (zok_int _ _) (zoks_tl (zoks_tl hst)))
theorem Q_idiv (hT : zCx τ M kk mc ms) {x d : Nat} {vx vd : Int32} (hd : decode M.2.1 pc = .ok (.idiv, 1)) (ex : vx = nI x) (ed : vd = nI d) (hx : x < 2147483648) (h0 : 0 < d) (h2 : d < 2147483648) (h : zJL b0 τ F (pc + 1) L (.int (nI (x / d)) :: st) μ c k) : zJL b0 τ F pc L (.int vd :: .int vx :: st) μ c k := by
  intro ad H locs ls hw hL hz0 hst
  subst ex; subst ed
  refine lv_idiv hT.1 hT.2.1 hd (nI_ne0 h0 h2) ?_
  rw [nI_div hx h2]
  have hst := zoks_tl hst
  have hst := zoks_tl hst
  exact h ad H locs ls hw hL hz0 (zoks_cons (zok_int _ _) hst)
theorem Q_irem (hT : zCx τ M kk mc ms) {x d : Nat} {vx vd : Int32} (hd : decode M.2.1 pc = .ok (.irem, 1)) (ex : vx = nI x) (ed : vd = nI d) (hx : x < 2147483648) (h0 : 0 < d) (h2 : d < 2147483648) (h : zJL b0 τ F (pc + 1) L (.int (nI (x % d)) :: st) μ c k) : zJL b0 τ F pc L (.int vd :: .int vx :: st) μ c k := by
  intro ad H locs ls hw hL hz0 hst
  subst ex; subst ed
  refine lv_irem hT.1 hT.2.1 hd (nI_ne0 h0 h2) ?_
  rw [nI_rem hx h2]
  have hst := zoks_tl hst
  have hst := zoks_tl hst
  exact h ad H locs ls hw hL hz0 (zoks_cons (zok_int _ _) hst)
theorem Q_if_lt (hT : zCx τ M kk mc ms) {x : Int32} {off : Int} {tgt : Nat} (hd : decode M.2.1 pc = .ok (.ifCond .lt off, 3)) (ht : (pc : Int) + off = (tgt : Int)) (h1 : x < 0 → zJL b0 τ F tgt L st μ c k) (h2 : ¬ (x < 0) → zJL b0 τ F (pc + 3) L st μ c k) : zJL b0 τ F pc L (.int x :: st) μ c k := by
  intro ad H locs ls hw hL hz0 hst
  exact lv_if_lt hT.1 hT.2.1 hd ht (fun q => h1 q ad H locs ls hw hL hz0 (zoks_tl hst)) (fun q => h2 q ad H locs ls hw hL hz0 (zoks_tl hst))
theorem Q_if_le (hT : zCx τ M kk mc ms) {x : Int32} {off : Int} {tgt : Nat} (hd : decode M.2.1 pc = .ok (.ifCond .le off, 3)) (ht : (pc : Int) + off = (tgt : Int)) (h1 : x ≤ 0 → zJL b0 τ F tgt L st μ c k) (h2 : ¬ (x ≤ 0) → zJL b0 τ F (pc + 3) L st μ c k) : zJL b0 τ F pc L (.int x :: st) μ c k := by
  intro ad H locs ls hw hL hz0 hst
  exact lv_if_le hT.1 hT.2.1 hd ht (fun q => h1 q ad H locs ls hw hL hz0 (zoks_tl hst)) (fun q => h2 q ad H locs ls hw hL hz0 (zoks_tl hst))
theorem Q_if_ge (hT : zCx τ M kk mc ms) {x : Int32} {off : Int} {tgt : Nat} (hd : decode M.2.1 pc = .ok (.ifCond .ge off, 3)) (ht : (pc : Int) + off = (tgt : Int)) (h1 : x ≥ 0 → zJL b0 τ F tgt L st μ c k) (h2 : ¬ (x ≥ 0) → zJL b0 τ F (pc + 3) L st μ c k) : zJL b0 τ F pc L (.int x :: st) μ c k := by
  intro ad H locs ls hw hL hz0 hst
  exact lv_if_ge hT.1 hT.2.1 hd ht (fun q => h1 q ad H locs ls hw hL hz0 (zoks_tl hst)) (fun q => h2 q ad H locs ls hw hL hz0 (zoks_tl hst))
theorem Q_if_gt (hT : zCx τ M kk mc ms) {x : Int32} {off : Int} {tgt : Nat} (hd : decode M.2.1 pc = .ok (.ifCond .gt off, 3)) (ht : (pc : Int) + off = (tgt : Int)) (h1 : x > 0 → zJL b0 τ F tgt L st μ c k) (h2 : ¬ (x > 0) → zJL b0 τ F (pc + 3) L st μ c k) : zJL b0 τ F pc L (.int x :: st) μ c k := by
  intro ad H locs ls hw hL hz0 hst
  exact lv_if_gt hT.1 hT.2.1 hd ht (fun q => h1 q ad H locs ls hw hL hz0 (zoks_tl hst)) (fun q => h2 q ad H locs ls hw hL hz0 (zoks_tl hst))
theorem Q_icmp_lt (hT : zCx τ M kk mc ms) {x y : Int32} {off : Int} {tgt : Nat} (hd : decode M.2.1 pc = .ok (.if_icmp .lt off, 3)) (ht : (pc : Int) + off = (tgt : Int)) (h1 : x < y → zJL b0 τ F tgt L st μ c k) (h2 : ¬ (x < y) → zJL b0 τ F (pc + 3) L st μ c k) : zJL b0 τ F pc L (.int y :: .int x :: st) μ c k := by
  intro ad H locs ls hw hL hz0 hst
  exact lv_icmp_lt hT.1 hT.2.1 hd ht (fun q => h1 q ad H locs ls hw hL hz0 (zoks_tl (zoks_tl hst))) (fun q => h2 q ad H locs ls hw hL hz0 (zoks_tl (zoks_tl hst)))
theorem Q_icmp_ge (hT : zCx τ M kk mc ms) {x y : Int32} {off : Int} {tgt : Nat} (hd : decode M.2.1 pc = .ok (.if_icmp .ge off, 3)) (ht : (pc : Int) + off = (tgt : Int)) (h1 : x ≥ y → zJL b0 τ F tgt L st μ c k) (h2 : ¬ (x ≥ y) → zJL b0 τ F (pc + 3) L st μ c k) : zJL b0 τ F pc L (.int y :: .int x :: st) μ c k := by
  intro ad H locs ls hw hL hz0 hst
  exact lv_icmp_ge hT.1 hT.2.1 hd ht (fun q => h1 q ad H locs ls hw hL hz0 (zoks_tl (zoks_tl hst))) (fun q => h2 q ad H locs ls hw hL hz0 (zoks_tl (zoks_tl hst)))
theorem Q_aload (hT : zCx τ M kk mc ms) {i : Nat} {x : Nat} (hd : decode M.2.1 pc = .ok (.aload i, 2)) (hl : L[i]? = some (some (.ref x))) (h : zJL b0 τ F (pc + 2) L (.ref x :: st) μ c k) : zJL b0 τ F pc L st μ c k := by
  intro ad H locs ls hw hL hz0 hst
  exact lv_aload hT.1 hT.2.1 hd (hL.2.2 i _ hl).1 (h ad H locs ls hw hL hz0 (zoks_cons (hL.2.2 i _ hl).2 hst))
theorem Q_iald (hT : zCx τ M kk mc ms) {a j : Nat} {i : Int32} (hd : decode M.2.1 pc = .ok (.iaload, 1)) (hk : zK μ a = 0) (hi : zix i j (zL μ a)) (h : zJL b0 τ F (pc + 1) L (.int (zI μ a j) :: st) μ c k) : zJL b0 τ F pc L (.int i :: .ref a :: st) μ c k := by
  intro ad H locs ls hw hL hz0 hst
  have ha := zok_lt (zoks_hd (zoks_tl hst))
  have he := zws_at τ.2.2.2.2.2.2.2.2.2.2.1.2.2 ad μ ha
  rw [zent_i hk (by decide)] at he
  have h2 := h ad H locs ls hw hL hz0 (zoks_cons (zok_int _ _) (zoks_tl (zoks_tl hst)))
  rw [← zix_at hi] at h2
  exact va_iald hT.1 hT.2.1 hT.K hw.1.1 a 0 he (ztys_at _ (by decide)) (zix_in hi) hd h2
theorem Q_iast (hT : zCx τ M kk mc ms) {a j : Nat} {i x : Int32} (hd : decode M.2.1 pc = .ok (.iastore, 1)) (hk : zK μ a = 0) (hi : zix i j (zL μ a)) (h : zJL b0 τ F (pc + 1) L st (zsI μ a j x) c k) : zJL b0 τ F pc L (.int x :: .int i :: .ref a :: st) μ c k := by
  intro ad H locs ls hw hL hz0 hst
  have ha := zok_lt (zoks_hd (zoks_tl (zoks_tl hst)))
  have he := zws_at τ.2.2.2.2.2.2.2.2.2.2.1.2.2 ad μ ha
  rw [zent_i hk (by decide)] at he
  refine va_iast hT.1 hT.2.1 hT.K hw.1.1 hw.1.2.1 hw.2.1 a 0 he (ztys_at _ (by decide)) (zix_in hi) hd (fun H1 locs1 q1 q2 q3 => ?_)
  refine h ad H1 locs1 ls (zHS_set hw rfl (zOK_sI hw.1.2.2) (zws_set (μ := μ) rfl ?_ (fun b hb => zent_sI_ne _ ad μ a j x b hb)) q1 q2 q3) hL hz0 (zoks_tl (zoks_tl (zoks_tl hst)))
  have e2 : zI (zsI μ a j x) a = upd (zI μ a) j x := by funext q; simp [zI_sI, upd]
  rw [zent_i (μ := zsI μ a j x) hk (by decide), zix_at hi, e2, zL_sI]
theorem Q_newI (hT : zCx τ M kk mc ms) {at' : ArrayType} {kd n : Nat} {i : Int32} (hkd : (kd = 0 ∧ at' = .int) ∨ (kd = 1 ∧ at' = .int) ∨ (kd = 2 ∧ at' = .char)) (hd : decode M.2.1 pc = .ok (.newarray at', 2)) (hw1 : Cond.arrayClass (zty kd) ∈ ztb) (hi : i = nI n) (hn : n ≤ 100000) (hc : c + 1 ≤ mc) (hs : k + n ≤ ms)
    (h : zJL b0 τ F (pc + 2) L (.ref (zN μ) :: st) (zal μ kd n) (c + 1) (k + n)) : zJL b0 τ F pc L (.int i :: st) μ c k := by
  intro ad H locs ls hw hL hz0 hst
  subst hi
  have hC := hT.2.2.2.2.2.2.2.2.2.2.2.2.2
  have hty : newarray.typeOf at' = zty kd := by rcases hkd with ⟨rfl, rfl⟩ | ⟨rfl, rfl⟩ | ⟨rfl, rfl⟩ <;> rfl
  have hk3 : kd < 3 := by rcases hkd with ⟨rfl, rfl⟩ | ⟨rfl, rfl⟩ | ⟨rfl, rfl⟩ <;> decide
  have hdv : defaultValue (zty kd) = .int 0 := by rcases hkd with ⟨rfl, rfl⟩ | ⟨rfl, rfl⟩ | ⟨rfl, rfl⟩ <;> rfl
  have hcb : componentBytes (zty kd) ≤ 4 := by rcases hkd with ⟨rfl, rfl⟩ | ⟨rfl, rfl⟩ | ⟨rfl, rfl⟩ <;> decide
  refine va_newa (N' := n) (a0 := (n, .inl (fun _ => 0))) hT.1 hT.2.1 (by rw [hty]; exact hT.ws _ hw1) hty hT.K hw.1.1 hw.1.2.1 hw.2.1 hT.A (fun cA => by rw [vp_cell_i, hdv]) (nI_pos (by omega)) (nI_clamp (by omega)) (Nat.le_trans (Nat.mul_le_mul (Nat.le_refl n) hcb) (by omega)) (by omega) (by omega) hd (fun q cA H1 q0 q1 q2 q3 => ?_)
  have hcA : cA = τ.2.2.2.2.2.2.2.2.2.2.1.2.2 kd := by
    have g1 := (q0.2 8 (cA, zty kd) (by rw [List.getElem?_append_right (by simp [ztys])]; simp [ztys])).2
    have g2 := (hT.K.2 kd _ (ztys_at _ (by omega))).2
    have u : ∀ (x : ClassId), va_RA τ.2.2.2.2.1 x (zty kd) → τ.2.2.2.2.1.vm.findClass ("[" ++ (zty kd).toString) = some x := by
      intro x hx
      rcases hkd with ⟨rfl, rfl⟩ | ⟨rfl, rfl⟩ | ⟨rfl, rfl⟩ <;> exact hx
    exact Option.some.inj ((u _ g1).symm.trans (u _ g2))
  subst hcA
  have hw2 := zHS_al (kd := kd) (n := n) (q := q) hw (by rw [zent_i (k := kd) (by simp [zK_al]) hk3, show zI (zal μ kd n) (zN μ) = (fun _ => 0) from by funext j; simp [zI_al], show zL (zal μ kd n) (zN μ) = n from by simp [zL_al]]) q1 q2 q3
  have hL2 := zLo_mono (ad' := fun a => if a = zN μ then q else ad a) (m := zN μ + 1) hL (fun a ha => by show (if a = zN μ then q else ad a) = _; rw [if_neg (by omega)]) (by omega)
  have h3 := h _ H1 locs ls hw2 hL2 hz0 (zoks_cons (zok_ref (by rw [zN_al]; omega)) (zoks_mono (zoks_tl hst) (by rw [zN_al]; omega)))
  rw [List.map_cons, ztv_ref, if_pos rfl, ztv_congrs (zoks_tl hst) (fun a ha => by show (if a = zN μ then q else ad a) = _; rw [if_neg (by omega)])] at h3
  exact h3
theorem Q_new (hT : zCx τ M kk mc ms) {ci idx : Nat} (h10 : ci < 9) (hd : decode M.2.1 pc = .ok (.new idx, 3)) (hw1 : Cond.classLink M.1.cls idx (zRX ci) ∈ ztb) (hw2 : Cond.instantiable (zRX ci) (znf ci) ∈ ztb) (hw3 : Cond.initialized (zRX ci) ∈ ztb) (hdv : ∀ j, j < znf ci → defaultValue (zfty ci j) = zfv id (zfty ci j) 0 none) (hc : c + 1 ≤ mc) (hs : k + znf ci ≤ ms)
    (h : zJL b0 τ F (pc + 3) L (.ref (zN μ) :: st) (zal μ (ci + 8) 0) (c + 1) (k + znf ci)) : zJL b0 τ F pc L st μ c k := by
  intro ad H locs ls hw hL hz0 hst
  have hC := hT.2.2.2.2.2.2.2.2.2.2.2.2.2
  refine va_new (fs := (List.range (znf ci)).map (fun j => zfv id (zfty ci j) 0 none)) hT.1 hT.2.1 hT.ws (zlays ci h10) (zfty ci) (ztyok ci h10) hT.own (hT.ws _ hw1) (hT.ws _ hw2) (hT.ws _ hw3) hT.K hw.1.1 hw.1.2.1 hw.2.1 hT.A (zcl_at ci h10) (fun j hj => by rw [hdv j hj]; simp [vp_V, hj]) (by omega) (by omega) hd (fun q H1 q1 q2 q3 => ?_)
  have hw2 := zHS_al (kd := ci + 8) (n := 0) (q := q) hw (by rw [zent_o (ci := ci) (by simp [zK_al])]; simp only [zI_al, zP_al, if_true, zfv, Option.map_none]) q1 q2 q3
  have hL2 := zLo_mono (ad' := fun a => if a = zN μ then q else ad a) (m := zN μ + 1) hL (fun a ha => by show (if a = zN μ then q else ad a) = _; rw [if_neg (by omega)]) (by omega)
  have h3 := h _ H1 locs ls hw2 hL2 hz0 (zoks_cons (zok_ref (by rw [zN_al]; omega)) (zoks_mono hst (by rw [zN_al]; omega)))
  rw [List.map_cons, ztv_ref, if_pos rfl, ztv_congrs hst (fun a ha => by show (if a = zN μ then q else ad a) = _; rw [if_neg (by omega)])] at h3
  exact h3
theorem zL1 {ls' : Array Slot} {n i b0 : Nat} {v : Value} {lv : List (Nat × Value)} (hi : 0 < i) (h' : lv_has ls' n ((i, v) :: ((0, .ref b0) :: lv).filter (fun q => !(q.1 == i) && !(q.1 + 1 == i && q.2.category == 2)))) : ls'[0]? = some (.val (.ref b0)) ∧ lv_has ls' n ((i, v) :: lv.filter (fun q => !(q.1 == i) && !(q.1 + 1 == i && q.2.category == 2))) := by
  have h0 : ((0 == i) : Bool) = false := beq_eq_false_iff_ne.mpr (by omega)
  have e : ((0, Value.ref b0) :: lv).filter (fun q => !(q.1 == i) && !(q.1 + 1 == i && q.2.category == 2)) = (0, Value.ref b0) :: lv.filter (fun q => !(q.1 == i) && !(q.1 + 1 == i && q.2.category == 2)) := by
    rw [List.filter_cons_of_pos]
    have c1 : ((Value.ref b0).category == 2) = false := rfl
    simp only [h0, c1, Bool.not_false, Bool.and_false, Bool.and_self]
  rw [e] at h'
  refine ⟨h'.2.2 (0, .ref b0) (List.mem_cons_of_mem _ List.mem_cons_self), h'.1, h'.2.1, fun q hq => ?_⟩
  rcases List.mem_cons.mp hq with rfl | hq
  · exact h'.2.2 _ List.mem_cons_self
  · exact h'.2.2 _ (List.mem_cons_of_mem _ (List.mem_cons_of_mem _ hq))
theorem Q_astore_n (hT : zCx τ M kk mc ms) {q : Fin 4} {i : Nat} {x : Nat} (hd : decode M.2.1 pc = .ok (.astore_n q, 1)) (hi : (q : Nat) = i) (h0 : 0 < i) (hl : (i + 0 < L.length)) (h : zJL b0 τ F (pc + 1) (zst1 L i (.ref x)) st μ c k) : zJL b0 τ F pc L (.ref x :: st) μ c k := by
  intro ad H locs ls hw hL hz0 hst
  exact lv_astore_n (lv := (0, .ref b0) :: zlv ad L) hT.1 hT.2.1 hd hi (zLo_has0 hL hz0) hl rfl (fun ls' h' => h ad H locs ls' hw (zLo_st1 (v := .ref x) hL (zoks_hd hst) (zL1 h0 h').2) (zL1 h0 h').1 (zoks_tl hst))
theorem Q_mu {μ' : zMem} (e : μ = μ') (h : zJL b0 τ F pc L st μ' c k) : zJL b0 τ F pc L st μ c k := e ▸ h
theorem Q_astore (hT : zCx τ M kk mc ms) {i : Nat} {x : Nat} (hd : decode M.2.1 pc = .ok (.astore i, 2)) (h0 : 0 < i) (hl : (i + 0 < L.length)) (h : zJL b0 τ F (pc + 2) (zst1 L i (.ref x)) st μ c k) : zJL b0 τ F pc L (.ref x :: st) μ c k := by
  intro ad H locs ls hw hL hz0 hst
  exact lv_astore (lv := (0, .ref b0) :: zlv ad L) hT.1 hT.2.1 hd (zLo_has0 hL hz0) hl rfl (fun ls' h' => h ad H locs ls' hw (zLo_st1 (v := .ref x) hL (zoks_hd hst) (zL1 h0 h').2) (zL1 h0 h').1 (zoks_tl hst))
end ZL7
section ZL8
variable {b0 : Nat} {l : Launch} {Z : zZ} {τ : zT} {M : zM} {kk mc ms : Nat} {F : State → Prop} {pc : Nat} {L : List (Option Value)} {st : List Value} {μ : zMem} {c k : Nat}
theorem Q_callI (hY : zCy l Z τ M kk mc ms) {m : zM} {n k' mc' ms' idx b : Nat} {as stk : List Value} {Q' : Option Value → zMem → Prop} (hd : decode M.2.1 pc = .ok (.invokespecial idx, 3)) (hm : zMf m n) (hret : m.2.2.2 = none) (hini : m.1.name = "<init>") (hins : Cond.instanceMethod m.1 ∈ ztb) (hlink : Cond.methodLink M.1.cls idx m.1 ∈ ztb ∨ ∃ host, Cond.methodLinkNest M.1.cls idx m.1 host ∈ lw_tbl)
    (ct : zCt l Z m k' mc' ms' (.ref b :: as) μ Q') (hn : as.length = n) (hkk : k' < kk) (hs : stk = as.reverse ++ .ref b :: st) (hL : L.length = M.2.2.1) (h8 : (st.map fun v => v.category).sum ≤ 8) (hc : c + mc' ≤ mc) (hk : k + ms' ≤ ms)
    (h : ∀ (r : Option Value) (μ' : zMem), Q' r μ' → zJL b0 τ F (pc + 3) L (r.toList ++ st) μ' (c + mc') (k + ms')) : zJL b0 τ F pc L stk μ c k := by
  intro ad H locs ls hw hLo hz0 hst
  subst hs
  obtain ⟨hT, el, eZ⟩ := hY
  subst el; subst eZ
  obtain ⟨_, _, _, _, _, _, _, _, _, hWm, hB, hfr, hlo, hcc, hss⟩ := id hT
  have hst1 : zoks (zN μ) st := fun v hv => hst v (List.mem_append_right _ (List.mem_cons_of_mem _ hv))
  have hob : zok (zN μ) (.ref b) := hst _ (List.mem_append_right _ List.mem_cons_self)
  have hoa : zoks (zN μ) (.ref b :: as) := zoks_cons hob fun v hv => hst v (List.mem_append_left _ (List.mem_reverse.mpr hv))
  have hp : PreS τ.2.2.2.2.1 H (zPc τ.2.2.2.2.2.2.2.2.2.2.1 ad μ (.ref b :: as)) (.ref (ad b) :: as.map (ztv ad)) := ⟨zPc_blind _ _ _ _, fun U hU hWU => ⟨rfl, hWm.trans hWU, by rw [hU]; exact hw.1, by rw [hU]; exact zHS.B hT hw⟩⟩
  have hst0 : (as.reverse ++ .ref b :: st).map (ztv ad) = (as.map (ztv ad)).reverse ++ .ref (ad b) :: st.map (ztv ad) := by rw [List.map_append, List.map_reverse]; rfl
  obtain ⟨y, cb, mL, rt⟩ := m
  dsimp only at hret hini
  subst hret
  rcases hlink with hlink | ⟨host, hlink⟩
  · refine zbackL hT hw hLo hz0 hst1 (va_runI (Ts := ztb) ⟨hT.1, hT.2.1, hT.2.2.1, hT.own, hT.ws⟩ (ct ad hoa) ⟨callB_of n hT.ws (zpay hm) rfl rfl rfl (hT.ws _ hm.2.1) (hT.ws _ hlink) hm.2.2.1 (zroom hkk hfr hlo hm.2.2.2 mc' ms'), hini, hT.ws _ hins⟩ hp rfl (by rw [List.length_map]; exact hn) (hLo.1.trans hL) hst0 (lv_room (by rw [zcat8]; exact h8)) hd ⟨by omega, by omega⟩) h
  · refine zbackL hT hw hLo hz0 hst1 (va_runIN (Ts := ztb) ⟨hT.1, hT.2.1, hT.2.2.1, hT.own, hT.ws⟩ (ct ad hoa) ⟨va_cnB n hT.ws (zpay hm) rfl rfl rfl (hT.nestM hlink) (hT.ws _ hm.2.1) hm.2.2.1 (zroom hkk hfr hlo hm.2.2.2 mc' ms'), hini, hT.ws _ hins⟩ hp rfl (by rw [List.length_map]; exact hn) (hLo.1.trans hL) hst0 (lv_room (by rw [zcat8]; exact h8)) hd ⟨by omega, by omega⟩) h
theorem Q_callS (hY : zCy l Z τ M kk mc ms) {m : zM} {n k' mc' ms' idx : Nat} {as stk : List Value} {Q' : Option Value → zMem → Prop} (hd : decode M.2.1 pc = .ok (.invokestatic idx, 3)) (hm : zMf m n) (hsta : Cond.static m.1 ∈ ztb) (hlink : Cond.methodLink M.1.cls idx m.1 ∈ ztb ∨ ∃ host, Cond.methodLinkNest M.1.cls idx m.1 host ∈ lw_tbl)
    (ct : zCt l Z m k' mc' ms' as μ Q') (hn : as.length = n) (hkk : k' < kk) (hs : stk = as.reverse ++ st) (hL : L.length = M.2.2.1) (h8 : (st.map fun v => v.category).sum ≤ 8) (hc : c + mc' ≤ mc) (hk : k + ms' ≤ ms)
    (h : ∀ (r : Option Value) (μ' : zMem), Q' r μ' → zJL b0 τ F (pc + 3) L (r.toList ++ st) μ' (c + mc') (k + ms')) : zJL b0 τ F pc L stk μ c k := by
  intro ad H locs ls hw hLo hz0 hst
  subst hs
  obtain ⟨hT, el, eZ⟩ := hY
  subst el; subst eZ
  obtain ⟨_, _, _, _, _, _, _, _, _, hWm, hB, hfr, hlo, hcc, hss⟩ := id hT
  have hst1 : zoks (zN μ) st := fun v hv => hst v (List.mem_append_right _ hv)
  have hoa : zoks (zN μ) as := fun v hv => hst v (List.mem_append_left _ (List.mem_reverse.mpr hv))
  have hp : PreS τ.2.2.2.2.1 H (zPc τ.2.2.2.2.2.2.2.2.2.2.1 ad μ as) (as.map (ztv ad)) := ⟨zPc_blind _ _ _ _, fun U hU hWU => ⟨rfl, hWm.trans hWU, by rw [hU]; exact hw.1, by rw [hU]; exact zHS.B hT hw⟩⟩
  have hst0 : (as.reverse ++ st).map (ztv ad) = (as.map (ztv ad)).reverse ++ st.map (ztv ad) := by rw [List.map_append, List.map_reverse]
  rcases hlink with hlink | ⟨host, hlink⟩
  · refine zbackL hT hw hLo hz0 hst1 (va_runS (Ts := ztb) ⟨hT.1, hT.2.1, hT.2.2.1, hT.own, hT.ws⟩ (ct ad hoa) ⟨callB_of n hT.ws (zpay hm) rfl rfl rfl (hT.ws _ hm.2.1) (hT.ws _ hlink) hm.2.2.1 (zroom hkk hfr hlo hm.2.2.2 mc' ms'), hT.ws _ hsta⟩ hp rfl (by rw [List.length_map]; exact hn) (hLo.1.trans hL) hst0 (lv_room (by rw [zcat8]; exact h8)) hd ⟨by omega, by omega⟩) h
  · refine zbackL hT hw hLo hz0 hst1 (va_runSN (Ts := ztb) ⟨hT.1, hT.2.1, hT.2.2.1, hT.own, hT.ws⟩ (ct ad hoa) ⟨va_cnB n hT.ws (zpay hm) rfl rfl rfl (hT.nestM hlink) (hT.ws _ hm.2.1) hm.2.2.1 (zroom hkk hfr hlo hm.2.2.2 mc' ms'), hT.ws _ hsta, trivial⟩ hp rfl (by rw [List.length_map]; exact hn) (hLo.1.trans hL) hst0 (lv_room (by rw [zcat8]; exact h8)) hd ⟨by omega, by omega⟩) h
end ZL8
/-! the script's cells -/
theorem and31 (x : Int32) : ¬ (x &&& 2147483647) < 0 := by
  have h : (x &&& 2147483647).toBitVec.msb = false := by
    rw [Int32.toBitVec_and, BitVec.msb_and, show (2147483647 : Int32).toBitVec.msb = false by decide, Bool.and_false]
  have h2 : (x &&& 2147483647).toInt = ((x &&& 2147483647).toBitVec.toNat : Int) := BitVec.toInt_eq_toNat_of_msb h
  have h0 : (0 : Int32).toInt = 0 := rfl
  rw [Int32.lt_iff_toInt_lt]
  omega
def clN (N : Nat) (xs : Nat → Int32) (k : Nat) : Int32 := (if k < N then xs k else 58027 * (nI k - nI k / 6311 * 6311) + 2311) &&& 2147483647
theorem clN_nI (N : Nat) (xs : Nat → Int32) (k : Nat) : ∃ Y, Y < 2147483648 ∧ clN N xs k = nI Y := nI_of (and31 _)
def zScZ (b0 N : Nat) (xs : Nat → Int32) (Z : zZ) : Prop := va_T .int b0 N (fun j => .int (xs j)) (zA Z) Z.1 Z.1.heap
set_option maxRecDepth 100000 in
set_option maxHeartbeats 4000000 in
theorem s_cell {l : Launch} {Z : zZ} (hZ : zSt l Z) {b0 N : Nat} {xs : Nat → Int32} (hS : zScZ b0 N xs Z) (hN : N < 2147483648) {k : Nat} (hk : k < 2147483648) : sCt l Z mL_cell 0 [.ref b0, .int (nI k)] (.int (clN N xs k)) := by
  refine sCt_of hZ mpL_cell (Nat.le_of_ble_eq_true rfl) (lv := [(0, .ref b0), (1, .int (nI k))]) rfl (fun τ ls hY hl => ?_)
  have hT := hY.1
  have hB : zB Z τ.2.2.2.2.1.heap := by
    obtain ⟨hT, el, eZ⟩ := hY
    subst el; subst eZ
    obtain ⟨_, _, _, _, _, _, _, _, _, _, hB, _⟩ := hT
    exact hB
  have s4 : va_T .int b0 N (fun j => .int (xs j)) (zA τ.2.2.2.2.2.2.2.2.2.2.1) τ.2.2.2.2.1 τ.2.2.2.2.1.heap := by
    obtain ⟨hT, el, eZ⟩ := hY
    subst el; subst eZ
    obtain ⟨_, _, _, _, _, _, _, _, _, hW, _, _⟩ := hT
    exact (hS.moved hW.alike).kept (fun a ha _ => hB.2 a ha)
  have hx := hT.1
  have hb := hT.2.1
  have hf : sL τ [] := fun _ h => nomatch h
  refine lv_iload_n (i := 1) hx hb dL_cell_0 rfl (lv_at hl 1 rfl) ?_
  refine lv_aload_n (i := 0) hx hb dL_cell_1 rfl (lv_at hl 0 rfl) ?_
  refine va_tlen hx hb s4 hf.S (v := nI N) rfl dL_cell_2 ?_
  by_cases q : k < N
  · have e : clN N xs k = xs k &&& 2147483647 := by unfold clN; rw [if_pos q]
    rw [e]
    refine lv_icmp_ge (tgt := 12) hx hb dL_cell_3 (by decide) (fun z => absurd z (Int32.not_le.mpr (nI_lt q (by omega)))) (fun _ => ?_)
    refine lv_aload_n (i := 0) hx hb dL_cell_6 rfl (lv_at hl 0 rfl) ?_
    refine lv_iload_n (i := 1) hx hb dL_cell_7 rfl (lv_at hl 1 rfl) ?_
    refine va_ti hx hb s4 hf.S (i := nI k) (zix_in (zix_nI q (by omega))) (v := .int (xs k)) (by rw [nI_clamp (by omega)]) dL_cell_8 ?_
    refine lv_goto (tgt := 24) hx hb dL_cell_9 (by decide) ?_
    refine lv_ldc hx hb hT.own (hT.ws _ lc_8) dL_cell_24 ?_
    refine lv_iand hx hb dL_cell_26 ?_
    exact s_iret hT hf dL_cell_27 rfl rfl
  · have e : clN N xs k = (58027 * (nI k - nI k / 6311 * 6311) + 2311) &&& 2147483647 := by unfold clN; rw [if_neg q]
    rw [e]
    refine lv_icmp_ge (tgt := 12) hx hb dL_cell_3 (by decide) (fun _ => ?_) (fun z => absurd (nI_le (Nat.not_lt.mp q) (by omega)) z)
    refine lv_ldc hx hb hT.own (hT.ws _ lc_7) dL_cell_12 ?_
    refine lv_iload_n (i := 1) hx hb dL_cell_14 rfl (lv_at hl 1 rfl) ?_
    refine lv_sipush (v := 6311) hx hb dL_cell_15 rfl ?_
    refine lv_irem hx hb dL_cell_18 (by decide) ?_
    refine lv_imul hx hb dL_cell_19 ?_
    refine lv_sipush (v := 2311) hx hb dL_cell_20 rfl ?_
    refine lv_iadd hx hb dL_cell_23 ?_
    refine lv_ldc hx hb hT.own (hT.ws _ lc_8) dL_cell_24 ?_
    refine lv_iand hx hb dL_cell_26 ?_
    exact s_iret hT hf dL_cell_27 rfl rfl
set_option maxRecDepth 20000 in
theorem klcell : Cond.methodLink RL 176 mL_cell.1 ∈ ztb := ztb_in (zc2 (List.mem_of_getElem? (i := 60) rfl)) rfl
/-- the script lies on the stack, below st -/
def zJM (b0 : Nat) (τ : zT) (F : State → Prop) (pc : Nat) (L : List (Option Value)) (st st2 : List Value) (μ : zMem) (c k : Nat) : Prop :=
  ∀ (ad : Nat → Nat) (H : Heap) (locs : List Loc) (ls : Array Slot), zHS τ ad μ H locs → zLo ad (zN μ) L ls → ls[0]? = some (.val (.ref b0)) → zoks (zN μ) st2 → zW τ H locs c k F (zF0 τ pc ls (st ++ .ref b0 :: st2.map (ztv ad)))
section ZL9
variable {b0 : Nat} {l : Launch} {Z : zZ} {τ : zT} {M : zM} {kk mc ms : Nat} {F : State → Prop} {pc : Nat} {L : List (Option Value)} {st st2 : List Value} {μ : zMem} {c k : Nat}
theorem Q_aload0 (hT : zCx τ M kk mc ms) (hd : decode M.2.1 pc = .ok (.aload_n 0, 1)) (h : zJM b0 τ F (pc + 1) L [] st μ c k) : zJL b0 τ F pc L st μ c k := by
  intro ad H locs ls hw hL hz0 hst
  exact lv_aload_n (i := 0) hT.1 hT.2.1 hd rfl hz0 (h ad H locs ls hw hL hz0 hst)
theorem M_topil {x y : Int32} (e : x = y) (h : zJM b0 τ F pc L (.int y :: st) st2 μ c k) : zJM b0 τ F pc L (.int x :: st) st2 μ c k := e ▸ h
theorem M_iload (hT : zCx τ M kk mc ms) {i : Nat} {x : Int32} (hd : decode M.2.1 pc = .ok (.iload i, 2)) (hl : L[i]? = some (some (.int x))) (h : zJM b0 τ F (pc + 2) L (.int x :: st) st2 μ c k) : zJM b0 τ F pc L st st2 μ c k := by
  intro ad H locs ls hw hL hz0 hst
  exact lv_iload hT.1 hT.2.1 hd (hL.2.2 i _ hl).1 (h ad H locs ls hw hL hz0 hst)
theorem M_iconst (hT : zCx τ M kk mc ms) {n : Int} {v : Int32} (hd : decode M.2.1 pc = .ok (.iconst n, 1)) (hv : Int32.ofInt n = v) (h : zJM b0 τ F (pc + 1) L (.int v :: st) st2 μ c k) : zJM b0 τ F pc L st st2 μ c k := by
  intro ad H locs ls hw hL hz0 hst
  exact lv_iconst hT.1 hT.2.1 hd hv (h ad H locs ls hw hL hz0 hst)
theorem M_bipush (hT : zCx τ M kk mc ms) {n : Int} {v : Int32} (hd : decode M.2.1 pc = .ok (.bipush n, 2)) (hv : (Int8.ofInt n).toInt32 = v) (h : zJM b0 τ F (pc + 2) L (.int v :: st) st2 μ c k) : zJM b0 τ F pc L st st2 μ c k := by
  intro ad H locs ls hw hL hz0 hst
  exact lv_bipush hT.1 hT.2.1 hd hv (h ad H locs ls hw hL hz0 hst)
theorem M_imul (hT : zCx τ M kk mc ms) {x y : Int32} (hd : decode M.2.1 pc = .ok (.imul, 1)) (h : zJM b0 τ F (pc + 1) L (.int (x * y) :: st) st2 μ c k) : zJM b0 τ F pc L (.int y :: .int x :: st) st2 μ c k := by
  intro ad H locs ls hw hL hz0 hst
  exact lv_imul hT.1 hT.2.1 hd (h ad H locs ls hw hL hz0 hst)
theorem M_iadd (hT : zCx τ M kk mc ms) {x y : Int32} (hd : decode M.2.1 pc = .ok (.iadd, 1)) (h : zJM b0 τ F (pc + 1) L (.int (x + y) :: st) st2 μ c k) : zJM b0 τ F pc L (.int y :: .int x :: st) st2 μ c k := by
  intro ad H locs ls hw hL hz0 hst
  exact lv_iadd hT.1 hT.2.1 hd (h ad H locs ls hw hL hz0 hst)
theorem M_irem (hT : zCx τ M kk mc ms) {x d : Nat} {vx vd : Int32} (hd : decode M.2.1 pc = .ok (.irem, 1)) (ex : vx = nI x) (ed : vd = nI d) (hx : x < 2147483648) (h0 : 0 < d) (h2 : d < 2147483648) (h : zJM b0 τ F (pc + 1) L (.int (nI (x % d)) :: st) st2 μ c k) : zJM b0 τ F pc L (.int vd :: .int vx :: st) st2 μ c k := by
  intro ad H locs ls hw hL hz0 hst
  subst ex; subst ed
  refine lv_irem hT.1 hT.2.1 hd (nI_ne0 h0 h2) ?_
  rw [nI_rem hx h2]
  exact h ad H locs ls hw hL hz0 hst
/-- a cell of the script is asked: some number that is not below 0 -/
theorem M_cell (hZ : zSt l Z) (hY : zCy l Z τ M kk mc ms) (hM : M.1.cls = RL) {N : Nat} {xs : Nat → Int32} (hS : zScZ b0 N xs Z) (hN : N < 2147483648) {i : Nat} (hi : i < 2147483648) (hd : decode M.2.1 pc = .ok (.invokestatic 176, 3)) (hL : L.length = M.2.2.1) (h8 : (st2.map fun v => v.category).sum ≤ 8) (hkk : 0 < kk) (hc : c ≤ mc) (hk : k ≤ ms)
    (h : ∀ Y, Y < 2147483648 → zJL b0 τ F (pc + 3) L (.int (nI Y) :: st2) μ c k) : zJM b0 τ F pc L [.int (nI i)] st2 μ c k := by
  have hT := hY.1
  intro ad H locs ls hw hLo hz0 hst
  have hBH : zB Z H := by have := zHS.B hT hw; rw [hY.2.2] at this; exact this
  obtain ⟨Y, hY1, hY2⟩ := clN_nI N xs i
  have hs := s_cell hZ hS hN hi
  rw [hY2] at hs
  refine s_callS hY hd mfL_cell mtL_cell (by rw [hM]; exact klcell) hs hBH (as := [.ref b0, .int (nI i)]) rfl hkk (rest := st2.map (ztv ad)) rfl (hLo.1.trans hL) (by rw [zcat8]; exact h8) hc hk hw.2.1.2.2 (fun locs' hf => ?_)
  exact h Y hY1 ad H locs' ls ⟨hw.1, ⟨hw.2.1.1, hw.2.1.2.1, hf⟩, hw.2.2⟩ hLo hz0 (zoks_cons (zok_int _ _) hst)
end ZL9
