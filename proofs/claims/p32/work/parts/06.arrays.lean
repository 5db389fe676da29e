/-! ===== arrays, making, returns, calls ===== -/
/-- an index within -/
def zix (i : Int32) (j n : Nat) : Prop := i.toInt = (j : Int) ∧ j < n
theorem zix_nI {j n : Nat} (h : j < n) (hn : n ≤ 2147483648) : zix (nI j) j n := ⟨nI_toInt (by omega), h⟩
theorem zix_in {i : Int32} {j n : Nat} (h : zix i j n) : vp_in i n := vp_in_iff.mpr ⟨by rw [h.1]; omega, by rw [h.1]; have := h.2; omega⟩
theorem zix_at {i : Int32} {j n : Nat} (h : zix i j n) : i.toNatClampNeg = j := by
  have := h.1
  show i.toInt.toNat = j
  omega
section ZA
variable {τ : zT} {M : zM} {kk mc ms : Nat} {F : State → Prop} {pc : Nat} {L : List (Option Value)} {st : List Value} {μ : zMem} {c k : Nat}
theorem zHS.lt {ad : Nat → Nat} {H : Heap} {locs : List Loc} {a : Nat} (_ : zHS τ ad μ H locs) (hst : zoks (zN μ) (.ref a :: st)) : a < zN μ := zok_lt (zoks_hd hst)
theorem J_iald (hT : zCx τ M kk mc ms) {a j : Nat} {i : Int32} (hd : decode M.2.1 pc = .ok (.iaload, 1)) (hk : zK μ a = 0) (hi : zix i j (zL μ a)) (h : zJ τ F (pc + 1) L (.int (zI μ a j) :: st) μ c k) : zJ τ F pc L (.int i :: .ref a :: st) μ c k := by
  intro ad H locs ls hw hL hst
  have ha := zok_lt (zoks_hd (zoks_tl hst))
  have he := zws_at τ.2.2.2.2.2.2.2.2.2.2.1.2.2 ad μ ha
  rw [zent_i hk (by decide)] at he
  have h2 := h ad H locs ls hw hL (zoks_cons (zok_int _ _) (zoks_tl (zoks_tl hst)))
  rw [← zix_at hi] at h2
  exact va_iald hT.1 hT.2.1 hT.K hw.1.1 a 0 he (ztys_at _ (by decide)) (zix_in hi) hd h2
theorem J_cald (hT : zCx τ M kk mc ms) {a j : Nat} {i : Int32} (hd : decode M.2.1 pc = .ok (.caload, 1)) (hk : zK μ a = 2) (hi : zix i j (zL μ a)) (h : zJ τ F (pc + 1) L (.int (zI μ a j) :: st) μ c k) : zJ τ F pc L (.int i :: .ref a :: st) μ c k := by
  intro ad H locs ls hw hL hst
  have ha := zok_lt (zoks_hd (zoks_tl hst))
  have he := zws_at τ.2.2.2.2.2.2.2.2.2.2.1.2.2 ad μ ha
  rw [zent_i hk (by decide)] at he
  have h2 := h ad H locs ls hw hL (zoks_cons (zok_int _ _) (zoks_tl (zoks_tl hst)))
  rw [← zix_at hi] at h2
  exact va_cald hT.1 hT.2.1 hT.K hw.1.1 a 2 he (ztys_at _ (by decide)) (zix_in hi) hd h2
theorem zty_q {kd : Nat} (h3 : 3 < kd) (h8 : kd < 8) : ∃ C, zty kd = .object C := by
  match kd, h3, h8 with
  | 4, _, _ => exact ⟨_, rfl⟩
  | 5, _, _ => exact ⟨_, rfl⟩
  | 6, _, _ => exact ⟨_, rfl⟩
  | 7, _, _ => exact ⟨_, rfl⟩
theorem J_aald (hT : zCx τ M kk mc ms) {a j kd : Nat} {i : Int32} {v : Value} (hd : decode M.2.1 pc = .ok (.aaload, 1)) (hk : zK μ a = kd) (h3 : 3 < kd) (h8 : kd < 8) (hi : zix i j (zL μ a)) (hv : va_rf (zP μ a j) = v) (h : zJ τ F (pc + 1) L (v :: st) μ c k) : zJ τ F pc L (.int i :: .ref a :: st) μ c k := by
  intro ad H locs ls hw hL hst
  have ha := zok_lt (zoks_hd (zoks_tl hst))
  have he := zws_at τ.2.2.2.2.2.2.2.2.2.2.1.2.2 ad μ ha
  rw [zent_p hk h3 h8] at he
  obtain ⟨C, hC⟩ := zty_q h3 h8
  have ht := ztys_at τ.2.2.2.2.2.2.2.2.2.2.1.2.2 h8
  rw [hC] at ht
  have hvo : zok (zN μ) v := by
    intro r hr
    rw [← hv] at hr
    cases hp : zP μ a j with
    | none => rw [hp] at hr; cases hr
    | some q => rw [hp] at hr; cases hr; exact hw.1.2.2 a j _ ha hp
  have h2 := h ad H locs ls hw hL (zoks_cons hvo (zoks_tl (zoks_tl hst)))
  rw [← hv, List.map_cons, ztv_rf, ← zix_at hi] at h2
  exact va_aldq hT.1 hT.2.1 hT.K hw.1.1 a kd he ht (zix_in hi) hd h2
theorem J_alen (hT : zCx τ M kk mc ms) {a : Nat} {v : Int32} (hd : decode M.2.1 pc = .ok (.arraylength, 1)) (hk : zK μ a < 8) (hv : nI (zL μ a) = v) (h : zJ τ F (pc + 1) L (.int v :: st) μ c k) : zJ τ F pc L (.ref a :: st) μ c k := by
  intro ad H locs ls hw hL hst
  have ha := zok_lt (zoks_hd hst)
  have he := zws_at τ.2.2.2.2.2.2.2.2.2.2.1.2.2 ad μ ha
  have h2 := h ad H locs ls hw hL (zoks_cons (zok_int _ _) (zoks_tl hst))
  by_cases h3 : zK μ a < 3
  · rw [zent_i rfl h3] at he
    exact va_alen hT.1 hT.2.1 hT.K hw.1.1 a _ he (ztys_at _ hk) hv hd h2
  · by_cases h4 : zK μ a = 3
    · rw [zent_g h4] at he
      exact va_alen hT.1 hT.2.1 hT.K hw.1.1 a 3 he (ztys_at _ (by decide)) hv hd h2
    · rw [zent_p rfl (by omega) hk] at he
      exact va_alen hT.1 hT.2.1 hT.K hw.1.1 a _ he (ztys_at _ hk) hv hd h2
theorem J_iast (hT : zCx τ M kk mc ms) {a j : Nat} {i x : Int32} (hd : decode M.2.1 pc = .ok (.iastore, 1)) (hk : zK μ a = 0) (hi : zix i j (zL μ a)) (h : zJ τ F (pc + 1) L st (zsI μ a j x) c k) : zJ τ F pc L (.int x :: .int i :: .ref a :: st) μ c k := by
  intro ad H locs ls hw hL hst
  have ha := zok_lt (zoks_hd (zoks_tl (zoks_tl hst)))
  have he := zws_at τ.2.2.2.2.2.2.2.2.2.2.1.2.2 ad μ ha
  rw [zent_i hk (by decide)] at he
  refine va_iast hT.1 hT.2.1 hT.K hw.1.1 hw.1.2.1 hw.2.1 a 0 he (ztys_at _ (by decide)) (zix_in hi) hd (fun H1 locs1 q1 q2 q3 => ?_)
  refine h ad H1 locs1 ls (zHS_set hw rfl (zOK_sI hw.1.2.2) (zws_set (μ := μ) rfl ?_ (fun b hb => zent_sI_ne _ ad μ a j x b hb)) q1 q2 q3) hL (zoks_tl (zoks_tl (zoks_tl hst)))
  have e2 : zI (zsI μ a j x) a = upd (zI μ a) j x := by funext q; simp [zI_sI, upd]
  rw [zent_i (μ := zsI μ a j x) hk (by decide), zix_at hi, e2, zL_sI]
theorem J_cast (hT : zCx τ M kk mc ms) {a j : Nat} {i x : Int32} (hd : decode M.2.1 pc = .ok (.castore, 1)) (hk : zK μ a = 2) (hi : zix i j (zL μ a)) (hx : vp_nar .char x = x) (h : zJ τ F (pc + 1) L st (zsI μ a j x) c k) : zJ τ F pc L (.int x :: .int i :: .ref a :: st) μ c k := by
  intro ad H locs ls hw hL hst
  have ha := zok_lt (zoks_hd (zoks_tl (zoks_tl hst)))
  have he := zws_at τ.2.2.2.2.2.2.2.2.2.2.1.2.2 ad μ ha
  rw [zent_i hk (by decide)] at he
  refine va_cast hT.1 hT.2.1 hT.K hw.1.1 hw.1.2.1 hw.2.1 a 2 he (ztys_at _ (by decide)) (zix_in hi) hd (fun H1 locs1 q1 q2 q3 => ?_)
  rw [hx] at q1 q2
  refine h ad H1 locs1 ls (zHS_set hw rfl (zOK_sI hw.1.2.2) (zws_set (μ := μ) rfl ?_ (fun b hb => zent_sI_ne _ ad μ a j x b hb)) q1 q2 q3) hL (zoks_tl (zoks_tl (zoks_tl hst)))
  have e2 : zI (zsI μ a j x) a = upd (zI μ a) j x := by funext q; simp [zI_sI, upd]
  rw [zent_i (μ := zsI μ a j x) hk (by decide), zix_at hi, e2, zL_sI]
/-- a reference into an array of references: kinds 4 to 7 hold Cells, Readings, Services, Steps -/
def zqc : Nat → Nat := fun kd => match kd with
  | 4 => 0
  | 5 => 3
  | 6 => 4
  | _ => 5
theorem zqc_ty {kd : Nat} (h3 : 3 < kd) (h8 : kd < 8) : zty kd = .object (zRX (zqc kd)) ∧ zqc kd < 9 := by
  match kd, h3, h8 with
  | 4, _, _ => exact ⟨rfl, by decide⟩
  | 5, _, _ => exact ⟨rfl, by decide⟩
  | 6, _, _ => exact ⟨rfl, by decide⟩
  | 7, _, _ => exact ⟨rfl, by decide⟩
theorem J_aast (hT : zCx τ M kk mc ms) {a j kd r : Nat} {i : Int32} (hd : decode M.2.1 pc = .ok (.aastore, 1)) (hk : zK μ a = kd) (h3 : 3 < kd) (h8 : kd < 8) (hr : zK μ r = zqc kd + 8) (hi : zix i j (zL μ a)) (h : zJ τ F (pc + 1) L st (zsP μ a j (some r)) c k) : zJ τ F pc L (.ref r :: .int i :: .ref a :: st) μ c k := by
  intro ad H locs ls hw hL hst
  have ha := zok_lt (zoks_hd (zoks_tl (zoks_tl hst)))
  have hrl := zok_lt (zoks_hd hst)
  have he := zws_at τ.2.2.2.2.2.2.2.2.2.2.1.2.2 ad μ ha
  rw [zent_p hk h3 h8] at he
  have her := zws_at τ.2.2.2.2.2.2.2.2.2.2.1.2.2 ad μ hrl
  rw [zent_o hr] at her
  obtain ⟨hC, hc⟩ := zqc_ty h3 h8
  have ht := ztys_at τ.2.2.2.2.2.2.2.2.2.2.1.2.2 h8
  rw [hC] at ht
  refine va_astq hT.1 hT.2.1 hT.K hw.1.1 hw.1.2.1 hw.2.1 a kd r (zqc kd) he ht her (zcl_at _ hc) (zix_in hi) hd (fun H1 locs1 q1 q2 q3 => ?_)
  refine h ad H1 locs1 ls (zHS_set hw rfl (zOK_sP hw.1.2.2 (fun r' e => by cases e; exact hrl)) (zws_set (μ := μ) rfl ?_ (fun b hb => zent_sP_ne _ ad μ a j (some r) b hb)) q1 q2 q3) hL (zoks_tl (zoks_tl (zoks_tl hst)))
  have e2 : (fun q => (zP (zsP μ a j (some r)) a q).map ad) = va_up (fun q => (zP μ a q).map ad) j (some (ad r)) := by
    funext q
    simp only [zP_sP, va_up, true_and]
    by_cases hq : q = j <;> simp [hq]
  rw [zent_p (μ := zsP μ a j (some r)) hk h3 h8, zix_at hi, e2, zL_sP]
/-- behind a making -/
theorem zws_al {cA : Nat → ClassId} {ad : Nat → Nat} {kd n q : Nat} {e : va_E} (hok : zOK μ) (he : zent cA (fun a => if a = zN μ then q else ad a) (zal μ kd n) (zN μ) = e) :
    zws cA ad μ ++ [(q, e)] = zws cA (fun a => if a = zN μ then q else ad a) (zal μ kd n) := by
  have hb : ∀ b, b < zN μ → zent cA (fun a => if a = zN μ then q else ad a) (zal μ kd n) b = zent cA ad μ b := by
    intro b hb
    have hne : ¬ b = zN μ := by omega
    have hp : ∀ j, (zP μ b j).map (fun a => if a = zN μ then q else ad a) = (zP μ b j).map ad := by
      intro j
      cases hz : zP μ b j with
      | none => rfl
      | some r =>
        have := hok b j r hb hz
        simp only [Option.map_some]
        rw [if_neg (by omega)]
    simp only [zent, zK_al, zL_al, zI_al, zP_al, zG_al, if_neg hne, zfv, hp]
    have e1 : zI (zal μ kd n) b = zI μ b := by funext j; simp only [zI_al, if_neg hne]
    have e2 : zG (zal μ kd n) b = zG μ b := by funext j; simp only [zG_al, if_neg hne]
    rw [e1, e2]
  apply List.ext_getElem?
  intro j
  by_cases h1 : j < zN μ
  · rw [List.getElem?_append_left (by rw [zws_len]; exact h1), zws_at _ _ _ h1, zws_at _ _ _ (by rw [zN_al]; omega), hb j h1, if_neg (by omega)]
  · rw [List.getElem?_append_right (by rw [zws_len]; omega), zws_len]
    by_cases h2 : j = zN μ
    · subst h2
      rw [zws_at _ _ _ (by rw [zN_al]; omega), he, if_pos rfl]
      simp
    · rw [List.getElem?_eq_none (by simp; omega), List.getElem?_eq_none (by rw [zws_len, zN_al]; omega)]
theorem zHS_al {ad : Nat → Nat} {kd n q : Nat} {e : va_E} {H H1 : Heap} {locs : List Loc} (hw : zHS τ ad μ H locs) (he : zent τ.2.2.2.2.2.2.2.2.2.2.1.2.2 (fun a => if a = zN μ then q else ad a) (zal μ kd n) (zN μ) = e)
    (h1 : va_P τ.2.2.2.2.2.2.2.2.2.2.1.2.1 vwCl (zws τ.2.2.2.2.2.2.2.2.2.2.1.2.2 ad μ ++ [(q, e)]) H1) (h2 : va_D (zA τ.2.2.2.2.2.2.2.2.2.2.1) (zws τ.2.2.2.2.2.2.2.2.2.2.1.2.2 ad μ ++ [(q, e)])) (h3 : va_S (zA τ.2.2.2.2.2.2.2.2.2.2.1) τ.2.2.2.2.1.heap H1 locs) :
    zHS τ (fun a => if a = zN μ then q else ad a) (zal μ kd n) H1 locs := by
  rw [zws_al hw.1.2.2 he] at h1 h2
  refine ⟨⟨h1, h2, ?_⟩, h3, fun a ha => ?_, by rw [zN_al]; have := hw.2.2.2; omega⟩
  · intro b j r hb hp
    rw [zP_al] at hp
    rw [zN_al] at hb ⊢
    split at hp
    · cases hp
    · have := hw.1.2.2 b j r (by omega) hp
      omega
  · have := hw.2.2.2
    show (if a = zN μ then q else ad a) = _
    rw [if_neg (by omega)]
    exact hw.2.2.1 a ha
theorem J_newI (hT : zCx τ M kk mc ms) {at' : ArrayType} {kd n : Nat} {i : Int32} (hkd : (kd = 0 ∧ at' = .int) ∨ (kd = 1 ∧ at' = .int) ∨ (kd = 2 ∧ at' = .char)) (hd : decode M.2.1 pc = .ok (.newarray at', 2)) (hw1 : Cond.arrayClass (zty kd) ∈ ztb) (hi : i = nI n) (hn : n ≤ 100000) (hc : c + 1 ≤ mc) (hs : k + n ≤ ms)
    (h : zJ τ F (pc + 2) L (.ref (zN μ) :: st) (zal μ kd n) (c + 1) (k + n)) : zJ τ F pc L (.int i :: st) μ c k := by
  intro ad H locs ls hw hL hst
  subst hi
  have hC := hT.2.2.2.2.2.2.2.2.2.2.2.2.2
  have hty : newarray.typeOf at' = zty kd := by rcases hkd with ⟨rfl, rfl⟩ | ⟨rfl, rfl⟩ | ⟨rfl, rfl⟩ <;> rfl
  have hk3 : kd < 3 := by rcases hkd with ⟨rfl, rfl⟩ | ⟨rfl, rfl⟩ | ⟨rfl, rfl⟩ <;> decide
  have hdv : defaultValue (zty kd) = .int 0 := by rcases hkd with ⟨rfl, rfl⟩ | ⟨rfl, rfl⟩ | ⟨rfl, rfl⟩ <;> rfl
  have hcb : componentBytes (zty kd) ≤ 4 := by rcases hkd with ⟨rfl, rfl⟩ | ⟨rfl, rfl⟩ | ⟨rfl, rfl⟩ <;> decide
  refine va_newa (N' := n) (a0 := (n, .inl (fun _ => 0))) hT.1 hT.2.1 (by rw [hty]; exact hT.ws _ hw1) hty hT.K hw.1.1 hw.1.2.1 hw.2.1 hT.A (fun cA => by rw [vp_cell_i, hdv]) (nI_pos (by omega)) (nI_clamp (by omega)) (Nat.le_trans (Nat.mul_le_mul (Nat.le_refl n) hcb) (by omega)) (by omega) (by omega) hd (fun q cA H1 q0 q1 q2 q3 => ?_)
  have hcA : cA = τ.2.2.2.2.2.2.2.2.2.2.1.2.2 kd := by
    have g1 := (q0.2 8 (cA, zty kd) (by rw [List.getElem?_append_right (by simp [ztys])]; simp [ztys])).2
    have g2 := (hT.K.2 kd _ (ztys_at _ (by omega))).2
    have u : ∀ (x : ClassId), va_RA τ.2.2.2.2.1 x (zty kd) → τ.2.2.2.2.1.vm.findClass ("[" ++ (zty kd).toString) = some x := by
      intro x hx
      rcases hkd with ⟨rfl, rfl⟩ | ⟨rfl, rfl⟩ | ⟨rfl, rfl⟩ <;> exact hx
    exact Option.some.inj ((u _ g1).symm.trans (u _ g2))
  subst hcA
  have hw2 := zHS_al (kd := kd) (n := n) (q := q) hw (by rw [zent_i (k := kd) (by simp [zK_al]) hk3, show zI (zal μ kd n) (zN μ) = (fun _ => 0) from by funext j; simp [zI_al], show zL (zal μ kd n) (zN μ) = n from by simp [zL_al]]) q1 q2 q3
  have hL2 := zLo_mono (ad' := fun a => if a = zN μ then q else ad a) (m := zN μ + 1) hL (fun a ha => by show (if a = zN μ then q else ad a) = _; rw [if_neg (by omega)]) (by omega)
  have h3 := h _ H1 locs ls hw2 hL2 (zoks_cons (zok_ref (by rw [zN_al]; omega)) (zoks_mono (zoks_tl hst) (by rw [zN_al]; omega)))
  rw [List.map_cons, ztv_ref, if_pos rfl, ztv_congrs (zoks_tl hst) (fun a ha => by show (if a = zN μ then q else ad a) = _; rw [if_neg (by omega)])] at h3
  exact h3
theorem J_newQ (hT : zCx τ M kk mc ms) {kd n idx : Nat} {i : Int32} (h3 : 3 < kd) (h8 : kd < 8) (hd : decode M.2.1 pc = .ok (.anewarray idx, 3)) (hw1 : Cond.classLink M.1.cls idx (zRX (zqc kd)) ∈ ztb) (hi : i = nI n) (hn : n ≤ 100000) (hc : c + 1 ≤ mc) (hs : k + n ≤ ms)
    (h : zJ τ F (pc + 3) L (.ref (zN μ) :: st) (zal μ kd n) (c + 1) (k + n)) : zJ τ F pc L (.int i :: st) μ c k := by
  intro ad H locs ls hw hL hst
  subst hi
  have hC := hT.2.2.2.2.2.2.2.2.2.2.2.2.2
  obtain ⟨hty, hq10⟩ := zqc_ty h3 h8
  have hAO : va_AO (zRX (zqc kd)) τ.2.2.2.2.1 := by
    obtain ⟨_, _, _, _, _, _, _, _, hz, hW, _⟩ := hT
    refine va_AO.moved hW.alike (hz.2.2.2 _ ?_)
    match kd, h3, h8 with
    | 4, _, _ => exact Or.inl rfl
    | 5, _, _ => exact Or.inr (Or.inl rfl)
    | 6, _, _ => exact Or.inr (Or.inr (Or.inl rfl))
    | 7, _, _ => exact Or.inr (Or.inr (Or.inr rfl))
  refine va_newq (N' := n) hT.1 hT.2.1 hT.own (hT.ws _ hw1) hAO hT.K hw.1.1 hw.1.2.1 hw.2.1 hT.A (nI_pos (by omega)) (nI_clamp (by omega)) (by omega) (by omega) (by omega) hd (fun q cA H1 q0 q1 q2 q3 => ?_)
  have hcA : cA = τ.2.2.2.2.2.2.2.2.2.2.1.2.2 kd := by
    have g1 := (q0.2 8 (cA, .object (zRX (zqc kd))) (by rw [List.getElem?_append_right (by simp [ztys])]; simp [ztys])).2
    have g2 := (hT.K.2 kd _ (ztys_at _ h8)).2
    rw [hty] at g2
    obtain ⟨_, _, _, _, _, e1⟩ := g1
    obtain ⟨_, _, _, _, _, e2⟩ := g2
    exact Option.some.inj (e1.symm.trans e2)
  subst hcA
  have hw2 := zHS_al (kd := kd) (n := n) (q := q) hw (by rw [zent_p (k := kd) (by simp [zK_al]) h3 h8, show (fun j => (zP (zal μ kd n) (zN μ) j).map (fun a => if a = zN μ then q else ad a)) = (fun _ => none) from by funext j; simp [zP_al], show zL (zal μ kd n) (zN μ) = n from by simp [zL_al]]) q1 q2 q3
  have hL2 := zLo_mono (ad' := fun a => if a = zN μ then q else ad a) (m := zN μ + 1) hL (fun a ha => by show (if a = zN μ then q else ad a) = _; rw [if_neg (by omega)]) (by omega)
  have h3 := h _ H1 locs ls hw2 hL2 (zoks_cons (zok_ref (by rw [zN_al]; omega)) (zoks_mono (zoks_tl hst) (by rw [zN_al]; omega)))
  rw [List.map_cons, ztv_ref, if_pos rfl, ztv_congrs (zoks_tl hst) (fun a ha => by show (if a = zN μ then q else ad a) = _; rw [if_neg (by omega)])] at h3
  exact h3
theorem J_new (hT : zCx τ M kk mc ms) {ci idx : Nat} (h10 : ci < 9) (hd : decode M.2.1 pc = .ok (.new idx, 3)) (hw1 : Cond.classLink M.1.cls idx (zRX ci) ∈ ztb) (hw2 : Cond.instantiable (zRX ci) (znf ci) ∈ ztb) (hw3 : Cond.initialized (zRX ci) ∈ ztb) (hdv : ∀ j, j < znf ci → defaultValue (zfty ci j) = zfv id (zfty ci j) 0 none) (hc : c + 1 ≤ mc) (hs : k + znf ci ≤ ms)
    (h : zJ τ F (pc + 3) L (.ref (zN μ) :: st) (zal μ (ci + 8) 0) (c + 1) (k + znf ci)) : zJ τ F pc L st μ c k := by
  intro ad H locs ls hw hL hst
  have hC := hT.2.2.2.2.2.2.2.2.2.2.2.2.2
  refine va_new (fs := (List.range (znf ci)).map (fun j => zfv id (zfty ci j) 0 none)) hT.1 hT.2.1 hT.ws (zlays ci h10) (zfty ci) (ztyok ci h10) hT.own (hT.ws _ hw1) (hT.ws _ hw2) (hT.ws _ hw3) hT.K hw.1.1 hw.1.2.1 hw.2.1 hT.A (zcl_at ci h10) (fun j hj => by rw [hdv j hj]; simp [vp_V, hj]) (by omega) (by omega) hd (fun q H1 q1 q2 q3 => ?_)
  have hw2 := zHS_al (kd := ci + 8) (n := 0) (q := q) hw (by rw [zent_o (ci := ci) (by simp [zK_al])]; simp only [zI_al, zP_al, if_true, zfv, Option.map_none]) q1 q2 q3
  have hL2 := zLo_mono (ad' := fun a => if a = zN μ then q else ad a) (m := zN μ + 1) hL (fun a ha => by show (if a = zN μ then q else ad a) = _; rw [if_neg (by omega)]) (by omega)
  have h3 := h _ H1 locs ls hw2 hL2 (zoks_cons (zok_ref (by rw [zN_al]; omega)) (zoks_mono hst (by rw [zN_al]; omega)))
  rw [List.map_cons, ztv_ref, if_pos rfl, ztv_congrs hst (fun a ha => by show (if a = zN μ then q else ad a) = _; rw [if_neg (by omega)])] at h3
  exact h3
theorem J_objInit (hT : zCx τ M kk mc ms) {a idx : Nat} (hd : decode M.2.1 pc = .ok (.invokespecial idx, 3)) (hw1 : Cond.methodLink M.1.cls idx Lib.objectInit ∈ ztb) (hw2 : Cond.instanceMethod Lib.objectInit ∈ ztb) (hw3 : Cond.code Lib.objectInit ⟨#[0xb1]⟩ 1 none ∈ ztb) (hlen : L.length = M.2.2.1) (hst8 : (st.map fun v => v.category).sum ≤ 8)
    (h : zJ τ F (pc + 3) L st μ c k) : zJ τ F pc L (.ref a :: st) μ c k := by
  intro ad H locs ls hw hL hst
  obtain ⟨_, _, _, _, _, _, _, _, _, _, _, hfr, hlo, _⟩ := id hT
  have hsum : ((st.map (ztv ad)).map fun v => v.category).sum ≤ 8 := by rw [List.map_map]; simpa only [Function.comp_def, ztv_cat] using hst8
  refine W.objInit hT.1 hT.2.1 hT.own (hT.ws _ hw1) (hT.ws _ hw2) (hT.ws _ hw3) rfl (by rw [hT.2.2.1, ← hlen]; exact hL.1) rfl hd (by unfold zfr at hfr; omega) (by unfold zlo at hlo; show 2 * 0 + _ + 12 ≤ _; omega) ?_
  exact h ad H locs ls hw hL (zoks_tl hst)
end ZA

