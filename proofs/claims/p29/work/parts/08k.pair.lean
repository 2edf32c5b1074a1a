/-! ===== pairs of objects of one class ===== -/
def tw2 {τ : Type} (toT : τ → xW) (n : Nat) : τ × τ → xW := fun S => toT S.1 ++ sh n (toT S.2)
def r2 (b1 b2 n i : Nat) : Nat := if i < n then b1 + i else b2 + (i - n)
theorem r2_inj {b1 b2 n i j : Nat} (hb : b1 + n ≤ b2 ∨ b2 + n ≤ b1) (hi : i < n + n) (hj : j < n + n) (h : r2 b1 b2 n i = r2 b1 b2 n j) : i = j := by
  unfold r2 at h
  split at h <;> split at h <;> omega
theorem Emb.two {b1 b2 n : Nat} {w w' u u' : xW} (hb : b1 + n ≤ b2 ∨ b2 + n ≤ b1) (hu : u.length = n + n) (hu' : u'.length = n + n) (hw : w'.length = w.length) (h1 : b1 + n ≤ w.length) (h2 : b2 + n ≤ w.length)
    (e1 : u.map (xcr (r2 b1 b2 n)) = (w.drop b1).take n ++ (w.drop b2).take n) (e2 : u'.map (xcr (r2 b1 b2 n)) = (w'.drop b1).take n ++ (w'.drop b2).take n)
    (e3 : ∀ j, (j < b1 ∨ b1 + n ≤ j) → (j < b2 ∨ b2 + n ≤ j) → w'[j]? = w[j]?) : Emb (r2 b1 b2 n) w w' u u' := by
  have aux : ∀ (w u : xW), u.map (xcr (r2 b1 b2 n)) = (w.drop b1).take n ++ (w.drop b2).take n → b1 + n ≤ w.length → b2 + n ≤ w.length → ∀ i c, u[i]? = some c → w[r2 b1 b2 n i]? = some (xcr (r2 b1 b2 n) c) := by
    intro w u e h1 h2 i c hc
    have h3 : (u.map (xcr (r2 b1 b2 n)))[i]? = some (xcr (r2 b1 b2 n) c) := by rw [List.getElem?_map, hc]; rfl
    rw [e, List.getElem?_append] at h3
    have hl : ((w.drop b1).take n).length = n := by simp; omega
    rw [hl] at h3
    unfold r2 at h3 ⊢
    split
    · rename_i hi
      rw [if_pos hi, List.getElem?_take_of_lt hi, List.getElem?_drop] at h3
      exact h3
    · rename_i hi
      rw [if_neg hi] at h3
      have hi2 : i - n < n := by
        rcases Nat.lt_or_ge (i - n) n with q | q
        · exact q
        · rw [List.getElem?_take, if_neg (by omega)] at h3; cases h3
      rw [List.getElem?_take_of_lt hi2, List.getElem?_drop] at h3
      exact h3
  refine ⟨by omega, hw, fun i j hi hj h => r2_inj hb (by omega) (by omega) h, aux w u e1 h1 h2, aux w' u' e2 (by omega) (by omega), fun j c hc => ?_⟩
  by_cases q1 : b1 ≤ j ∧ j < b1 + n
  · exact Or.inl ⟨j - b1, by omega, by unfold r2; rw [if_pos (by omega)]; omega⟩
  · by_cases q2 : b2 ≤ j ∧ j < b2 + n
    · exact Or.inl ⟨n + (j - b2), by omega, by unfold r2; rw [if_neg (by omega)]; omega⟩
    · refine Or.inr ⟨by rw [← e3 j (by omega) (by omega)]; exact hc, fun i hi q => ?_⟩
      unfold r2 at q
      split at q <;> omega
def Lens2 {σ τ : Type} (toW : σ → xW) (toT : τ → xW) (b1 b2 n : Nat) (g : σ → τ × τ) (f : σ → τ × τ → σ) : Prop :=
  ∀ S P', Emb (r2 b1 b2 n) (toW S) (toW (f S P')) (tw2 toT n (g S)) (tw2 toT n P')
def O_callC {σ τ : Type} (b1 b2 n : Nat) (g : σ → τ × τ) (f : σ → τ × τ → σ) (sp : Sp (τ × τ)) : Op σ := fun K pc L st S => match st with
  | .ref k2 :: .ref k1 :: r => k1 = b1 ∧ k2 = b2 ∧ r.length ≤ 4 ∧ sp [.ref 0, .ref n] (g S) (fun v P' => K (pc + 3) L (v.toList ++ r) (f S P'))
  | _ => False
theorem O_callC_eq {σ τ : Type} (K : Kt σ) (pc : Nat) (S : σ) (L : xL) (r : List Value) (b1 b2 n k1 k2 : Nat) (g : σ → τ × τ) (f : σ → τ × τ → σ) (sp : Sp (τ × τ)) : O_callC b1 b2 n g f sp K pc L (.ref k2 :: .ref k1 :: r) S = (k1 = b1 ∧ k2 = b2 ∧ r.length ≤ 4 ∧ sp [.ref 0, .ref n] (g S) (fun v P' => K (pc + 3) L (v.toList ++ r) (f S P'))) := rfl
theorem ok_callC {σ τ : Type} {E : En} {own : String} {cc : ByteArray} {maxL d pc : Nat} {toW : σ → xW} {toT : τ → xW} (F : Fx E own cc maxL d) {ix b1 b2 n : Nat} (h0n : 0 < n) {y : MethodName} {ycc : ByteArray} {ymL dy : Nat} {yret : Option FieldType} {g : σ → τ × τ} {f : σ → τ × τ → σ} {sp : Sp (τ × τ)} (hsp : SpOk y ycc ymL yret dy (tw2 toT n) sp) (hln : Lens2 toW toT b1 b2 n g f) (hrc : rcvOk toT y.cls) (hck : cokV own ix y ycc ymL yret 1 = true) (hdd : dy + 1 ≤ d) (hd : decode cc pc = .ok (.invokevirtual ix, 3)) (hpc : pc + 3 < 100000) : OpOk E toW pc (O_callC b1 b2 n g f sp) := by
  refine OpOk.mk (by omega) fun {p l e R s m args below meth c Qc Q cs A nL D ad} hE K L st S ho hk H locs hP hap hS hL hn ls hl => ?_
  subst hE
  unfold O_callC at ho
  split at ho
  · rename_i k2 k1 r
    obtain ⟨rfl, rfl, hr4, ho⟩ := ho
    obtain ⟨rv, P', hnum, ⟨hlen, hM⟩, hK⟩ := hsp _ _ _ ho
    have hEm := hln S P'
    obtain ⟨h1, h2, h3, h4, h5, h6, h7, h8, h9, h10, h11, h12, h13⟩ := id F
    simp only [cokV, Bool.and_eq_true, decide_eq_true_eq] at hck
    obtain ⟨hws, hd1, hd2, hd3, hd4⟩ := hck
    have hz := fun w (hh : w ∈ _) => wsHas_mem hws hh
    obtain ⟨ci, fs, T, N, hr0, hrc0⟩ := hrc (g S).1
    have hu0 : (tw2 toT n (g S))[0]? = some (.inr (.inl (ci, fs))) := by
      unfold tw2
      rw [List.getElem?_append_left (by rcases Nat.eq_zero_or_pos (toT (g S).1).length with q | q; (rw [List.eq_nil_of_length_eq_zero q] at hr0; cases hr0); exact q)]
      exact hr0
    have hrcell := hEm.2.2.2.1 0 _ hu0
    have e0 : r2 k1 k2 n 0 = k1 := by unfold r2; rw [if_pos h0n]; rfl
    have en : r2 k1 k2 n n = k2 := by unfold r2; rw [if_neg (Nat.lt_irrefl n), Nat.sub_self]; rfl
    rw [e0] at hrcell
    refine x_call (va_runV (y := y) (bytes := ycc) (maxL := ymL) (ret := yret) (n := 1) (As := [.ref (ad k2)]) (rest := r.map (xv ad)) (b := ad k1) (C := y.cls) ⟨h1, h2, h3, h5, h6⟩ (hM l D (fun i => ad (r2 k1 k2 n i)) H.size) (cwV 1 h6 (ws_GoodIn ?_) rfl rfl rfl ⟨rfl, hd1, hd2, hd3⟩ ⟨?_, ?_⟩) ⟨blind_xPre, ?_, fun U hU hW => ⟨?_, ?_, ?_, ?_, ?_⟩⟩ rfl rfl (hl.1) rfl (lv_room (cat_sum8 hr4)) hd ⟨?_, ?_⟩) (fun v st₀ t L1 h0 hf hq => call_after F hEm hnum rfl (hk _ _ _ _ hK) hpc hP hap hS hL hn hl h0 hf hq)
    · intro w hw
      simp only [wsV, List.mem_append, List.mem_cons, List.not_mem_nil, or_false] at hw
      rcases hw with (rfl | rfl | rfl | rfl) | rfl | hw
      · exact hz _ (by simp)
      · exact hz _ (by simp)
      · exact hz _ (by simp)
      · exact hz _ (by simp)
      · exact hz _ (by simp)
      · exact hw
    · show dy + 1 ≤ _; omega
    · show 8 + (ymL + 11) + 36 * dy ≤ _; omega
    · exact va_recv (ci := ci) (q0 := k1) h8.1 hP hrc0 (by rw [xw_get, show (toW S)[k1]? = _ from hrcell]; rfl)
    · show _ = (List.map (xv (fun i => ad (r2 k1 k2 n i))) [Value.ref 0, Value.ref n]).toArray
      show _ = [Value.ref (ad (r2 k1 k2 n 0)), Value.ref (ad (r2 k1 k2 n n))].toArray
      rw [e0, en]
    · rw [hU]
    · rw [hU]; exact emb_P hEm hP
    · exact h8.warm hW
    · intro i j hi hj hij
      exact hEm.2.2.1 i j hi hj (hap.1 _ _ (by have := (List.getElem?_eq_some_iff.mp (hEm.2.2.2.1 i _ (List.getElem?_eq_getElem hi))).1; exact this) (by have := (List.getElem?_eq_some_iff.mp (hEm.2.2.2.1 j _ (List.getElem?_eq_getElem hj))).1; exact this) hij)
    · omega
    · omega
  · exact ho.elim
abbrev pW2 : PT × PT → xW := tw2 pW 9
set_option maxRecDepth 100000 in
theorem pW2_F : (∀ S : PT × PT, getF (pW2 S) 3 0 0 = some (.ref 1)) ∧
  (∀ S : PT × PT, getF (pW2 S) 3 0 1 = some (.ref 2)) ∧
  (∀ S : PT × PT, getF (pW2 S) 3 0 2 = some (.ref 3)) ∧
  (∀ S : PT × PT, getF (pW2 S) 3 0 3 = some (.ref 4)) ∧
  (∀ S : PT × PT, getF (pW2 S) 3 0 4 = some (.ref 5)) ∧
  (∀ S : PT × PT, getF (pW2 S) 3 0 5 = some (.ref 6)) ∧
  (∀ S : PT × PT, getF (pW2 S) 3 0 6 = some (.ref 7)) ∧
  (∀ S : PT × PT, getF (pW2 S) 3 0 7 = some (.ref 8)) ∧
  (∀ S : PT × PT, getF (pW2 S) 3 0 8 = some (.int S.1.size)) ∧
  (∀ S : PT × PT, getF (pW2 S) 3 0 9 = some (.int S.1.vrb)) ∧
  (∀ S : PT × PT, getF (pW2 S) 3 9 0 = some (.ref 10)) ∧
  (∀ S : PT × PT, getF (pW2 S) 3 9 1 = some (.ref 11)) ∧
  (∀ S : PT × PT, getF (pW2 S) 3 9 2 = some (.ref 12)) ∧
  (∀ S : PT × PT, getF (pW2 S) 3 9 3 = some (.ref 13)) ∧
  (∀ S : PT × PT, getF (pW2 S) 3 9 4 = some (.ref 14)) ∧
  (∀ S : PT × PT, getF (pW2 S) 3 9 5 = some (.ref 15)) ∧
  (∀ S : PT × PT, getF (pW2 S) 3 9 6 = some (.ref 16)) ∧
  (∀ S : PT × PT, getF (pW2 S) 3 9 7 = some (.ref 17)) ∧
  (∀ S : PT × PT, getF (pW2 S) 3 9 8 = some (.int S.2.size)) ∧
  (∀ S : PT × PT, getF (pW2 S) 3 9 9 = some (.int S.2.vrb)) := by
  repeat' apply And.intro
  all_goals (intro S; rfl)
set_option maxRecDepth 100000 in
theorem pW2_A : (∀ S : PT × PT, getA (pW2 S) 1 = some (0, 6, S.1.kinds)) ∧
  (∀ S : PT × PT, getA (pW2 S) 2 = some (0, 6, S.1.shutoffs)) ∧
  (∀ S : PT × PT, getA (pW2 S) 3 = some (0, 6, S.1.steeps)) ∧
  (∀ S : PT × PT, getA (pW2 S) 4 = some (1, 6, S.1.inService)) ∧
  (∀ S : PT × PT, getA (pW2 S) 5 = some (0, 6, S.1.speeds)) ∧
  (∀ S : PT × PT, getA (pW2 S) 6 = some (0, 6, S.1.minutes)) ∧
  (∀ S : PT × PT, getA (pW2 S) 7 = some (0, 6, S.1.since)) ∧
  (∀ S : PT × PT, getA (pW2 S) 8 = some (0, 6, S.1.starts)) ∧
  (∀ S : PT × PT, getA (pW2 S) 10 = some (0, 6, S.2.kinds)) ∧
  (∀ S : PT × PT, getA (pW2 S) 11 = some (0, 6, S.2.shutoffs)) ∧
  (∀ S : PT × PT, getA (pW2 S) 12 = some (0, 6, S.2.steeps)) ∧
  (∀ S : PT × PT, getA (pW2 S) 13 = some (1, 6, S.2.inService)) ∧
  (∀ S : PT × PT, getA (pW2 S) 14 = some (0, 6, S.2.speeds)) ∧
  (∀ S : PT × PT, getA (pW2 S) 15 = some (0, 6, S.2.minutes)) ∧
  (∀ S : PT × PT, getA (pW2 S) 16 = some (0, 6, S.2.since)) ∧
  (∀ S : PT × PT, getA (pW2 S) 17 = some (0, 6, S.2.starts)) := by
  repeat' apply And.intro
  all_goals (intro S; rfl)
def pW2_sa (S : PT × PT) (id : Nat) (g : Nat → Int32) : Option (PT × PT) := if id = 1 then some ((S.1.sKinds g), S.2) else if id = 2 then some ((S.1.sShutoffs g), S.2) else if id = 3 then some ((S.1.sSteeps g), S.2) else if id = 4 then some ((S.1.sInService g), S.2) else if id = 5 then some ((S.1.sSpeeds g), S.2) else if id = 6 then some ((S.1.sMinutes g), S.2) else if id = 7 then some ((S.1.sSince g), S.2) else if id = 8 then some ((S.1.sStarts g), S.2) else none
theorem pW2_sar : sarOk pW2 pW2_sa := by
  intro S id g S' t n f h hA
  unfold pW2_sa at h
  by_cases h1 : id = 1
  · subst h1
    rw [if_pos rfl] at h
    cases h
    cases hA
    rfl
  rw [if_neg h1] at h
  by_cases h2 : id = 2
  · subst h2
    rw [if_pos rfl] at h
    cases h
    cases hA
    rfl
  rw [if_neg h2] at h
  by_cases h3 : id = 3
  · subst h3
    rw [if_pos rfl] at h
    cases h
    cases hA
    rfl
  rw [if_neg h3] at h
  by_cases h4 : id = 4
  · subst h4
    rw [if_pos rfl] at h
    cases h
    cases hA
    rfl
  rw [if_neg h4] at h
  by_cases h5 : id = 5
  · subst h5
    rw [if_pos rfl] at h
    cases h
    cases hA
    rfl
  rw [if_neg h5] at h
  by_cases h6 : id = 6
  · subst h6
    rw [if_pos rfl] at h
    cases h
    cases hA
    rfl
  rw [if_neg h6] at h
  by_cases h7 : id = 7
  · subst h7
    rw [if_pos rfl] at h
    cases h
    cases hA
    rfl
  rw [if_neg h7] at h
  by_cases h8 : id = 8
  · subst h8
    rw [if_pos rfl] at h
    cases h
    cases hA
    rfl
  rw [if_neg h8] at h
  cases h
set_option maxRecDepth 100000 in
theorem pW2_S : (∀ (S : PT × PT) (g : Nat → Int32), pW2_sa S 1 g = some ((S.1.sKinds g), S.2)) ∧
  (∀ (S : PT × PT) (g : Nat → Int32), pW2_sa S 2 g = some ((S.1.sShutoffs g), S.2)) ∧
  (∀ (S : PT × PT) (g : Nat → Int32), pW2_sa S 3 g = some ((S.1.sSteeps g), S.2)) ∧
  (∀ (S : PT × PT) (g : Nat → Int32), pW2_sa S 4 g = some ((S.1.sInService g), S.2)) ∧
  (∀ (S : PT × PT) (g : Nat → Int32), pW2_sa S 5 g = some ((S.1.sSpeeds g), S.2)) ∧
  (∀ (S : PT × PT) (g : Nat → Int32), pW2_sa S 6 g = some ((S.1.sMinutes g), S.2)) ∧
  (∀ (S : PT × PT) (g : Nat → Int32), pW2_sa S 7 g = some ((S.1.sSince g), S.2)) ∧
  (∀ (S : PT × PT) (g : Nat → Int32), pW2_sa S 8 g = some ((S.1.sStarts g), S.2)) ∧
  True := by
  repeat' apply And.intro
  all_goals first | trivial | (intro S g; rfl)
def pW2_p3_8 (S : PT × PT) (id : Nat) (x : Int32) : Option (PT × PT) := if id = 0 then some ((S.1.sSize x), S.2) else none
theorem pW2_p3_8_ok : putOk pW2 3 8 pW2_p3_8 := by
  intro S id x S' h
  unfold pW2_p3_8 at h
  by_cases h0 : id = 0
  · subst h0
    rw [if_pos rfl] at h
    cases h
    exact ⟨_, rfl, Nat.le_of_ble_eq_true rfl, rfl⟩
  rw [if_neg h0] at h
  cases h
def pW2_p3_9 (S : PT × PT) (id : Nat) (x : Int32) : Option (PT × PT) := if id = 0 then some ((S.1.sVrb x), S.2) else none
theorem pW2_p3_9_ok : putOk pW2 3 9 pW2_p3_9 := by
  intro S id x S' h
  unfold pW2_p3_9 at h
  by_cases h0 : id = 0
  · subst h0
    rw [if_pos rfl] at h
    cases h
    exact ⟨_, rfl, Nat.le_of_ble_eq_true rfl, rfl⟩
  rw [if_neg h0] at h
  cases h
set_option maxRecDepth 100000 in
theorem pW2_P : (∀ (S : PT × PT) (x : Int32), pW2_p3_8 S 0 x = some ((S.1.sSize x), S.2)) ∧
  (∀ (S : PT × PT) (x : Int32), pW2_p3_9 S 0 x = some ((S.1.sVrb x), S.2)) := by
  repeat' apply And.intro
  all_goals (intro S x; rfl)
abbrev zW2 : ZT × ZT → xW := tw2 zW 6
set_option maxRecDepth 100000 in
theorem zW2_F : (∀ S : ZT × ZT, getF (zW2 S) 5 0 0 = some (.ref 1)) ∧
  (∀ S : ZT × ZT, getF (zW2 S) 5 0 1 = some (.ref 2)) ∧
  (∀ S : ZT × ZT, getF (zW2 S) 5 0 2 = some (.int S.1.size)) ∧
  (∀ S : ZT × ZT, getF (zW2 S) 5 0 3 = some (.ref 3)) ∧
  (∀ S : ZT × ZT, getF (zW2 S) 5 0 4 = some (.ref 4)) ∧
  (∀ S : ZT × ZT, getF (zW2 S) 5 0 5 = some (.ref 5)) ∧
  (∀ S : ZT × ZT, getF (zW2 S) 5 0 6 = some (.int S.1.programmes)) ∧
  (∀ S : ZT × ZT, getF (zW2 S) 5 6 0 = some (.ref 7)) ∧
  (∀ S : ZT × ZT, getF (zW2 S) 5 6 1 = some (.ref 8)) ∧
  (∀ S : ZT × ZT, getF (zW2 S) 5 6 2 = some (.int S.2.size)) ∧
  (∀ S : ZT × ZT, getF (zW2 S) 5 6 3 = some (.ref 9)) ∧
  (∀ S : ZT × ZT, getF (zW2 S) 5 6 4 = some (.ref 10)) ∧
  (∀ S : ZT × ZT, getF (zW2 S) 5 6 5 = some (.ref 11)) ∧
  (∀ S : ZT × ZT, getF (zW2 S) 5 6 6 = some (.int S.2.programmes)) := by
  repeat' apply And.intro
  all_goals (intro S; rfl)
set_option maxRecDepth 100000 in
theorem zW2_A : (∀ S : ZT × ZT, getA (zW2 S) 1 = some (0, 8, S.1.demands)) ∧
  (∀ S : ZT × ZT, getA (zW2 S) 2 = some (1, 8, S.1.isOpen)) ∧
  (∀ S : ZT × ZT, getA (zW2 S) 3 = some (0, 8, S.1.pzones)) ∧
  (∀ S : ZT × ZT, getA (zW2 S) 4 = some (0, 8, S.1.opening)) ∧
  (∀ S : ZT × ZT, getA (zW2 S) 5 = some (0, 8, S.1.closing)) ∧
  (∀ S : ZT × ZT, getA (zW2 S) 7 = some (0, 8, S.2.demands)) ∧
  (∀ S : ZT × ZT, getA (zW2 S) 8 = some (1, 8, S.2.isOpen)) ∧
  (∀ S : ZT × ZT, getA (zW2 S) 9 = some (0, 8, S.2.pzones)) ∧
  (∀ S : ZT × ZT, getA (zW2 S) 10 = some (0, 8, S.2.opening)) ∧
  (∀ S : ZT × ZT, getA (zW2 S) 11 = some (0, 8, S.2.closing)) := by
  repeat' apply And.intro
  all_goals (intro S; rfl)
def zW2_sa (S : ZT × ZT) (id : Nat) (g : Nat → Int32) : Option (ZT × ZT) := if id = 1 then some ((S.1.sDemands g), S.2) else if id = 2 then some ((S.1.sIsOpen g), S.2) else if id = 3 then some ((S.1.sPzones g), S.2) else if id = 4 then some ((S.1.sOpening g), S.2) else if id = 5 then some ((S.1.sClosing g), S.2) else none
theorem zW2_sar : sarOk zW2 zW2_sa := by
  intro S id g S' t n f h hA
  unfold zW2_sa at h
  by_cases h1 : id = 1
  · subst h1
    rw [if_pos rfl] at h
    cases h
    cases hA
    rfl
  rw [if_neg h1] at h
  by_cases h2 : id = 2
  · subst h2
    rw [if_pos rfl] at h
    cases h
    cases hA
    rfl
  rw [if_neg h2] at h
  by_cases h3 : id = 3
  · subst h3
    rw [if_pos rfl] at h
    cases h
    cases hA
    rfl
  rw [if_neg h3] at h
  by_cases h4 : id = 4
  · subst h4
    rw [if_pos rfl] at h
    cases h
    cases hA
    rfl
  rw [if_neg h4] at h
  by_cases h5 : id = 5
  · subst h5
    rw [if_pos rfl] at h
    cases h
    cases hA
    rfl
  rw [if_neg h5] at h
  cases h
set_option maxRecDepth 100000 in
theorem zW2_S : (∀ (S : ZT × ZT) (g : Nat → Int32), zW2_sa S 1 g = some ((S.1.sDemands g), S.2)) ∧
  (∀ (S : ZT × ZT) (g : Nat → Int32), zW2_sa S 2 g = some ((S.1.sIsOpen g), S.2)) ∧
  (∀ (S : ZT × ZT) (g : Nat → Int32), zW2_sa S 3 g = some ((S.1.sPzones g), S.2)) ∧
  (∀ (S : ZT × ZT) (g : Nat → Int32), zW2_sa S 4 g = some ((S.1.sOpening g), S.2)) ∧
  (∀ (S : ZT × ZT) (g : Nat → Int32), zW2_sa S 5 g = some ((S.1.sClosing g), S.2)) ∧
  True := by
  repeat' apply And.intro
  all_goals first | trivial | (intro S g; rfl)
def zW2_p5_2 (S : ZT × ZT) (id : Nat) (x : Int32) : Option (ZT × ZT) := if id = 0 then some ((S.1.sSize x), S.2) else none
theorem zW2_p5_2_ok : putOk zW2 5 2 zW2_p5_2 := by
  intro S id x S' h
  unfold zW2_p5_2 at h
  by_cases h0 : id = 0
  · subst h0
    rw [if_pos rfl] at h
    cases h
    exact ⟨_, rfl, Nat.le_of_ble_eq_true rfl, rfl⟩
  rw [if_neg h0] at h
  cases h
def zW2_p5_6 (S : ZT × ZT) (id : Nat) (x : Int32) : Option (ZT × ZT) := if id = 0 then some ((S.1.sProgrammes x), S.2) else none
theorem zW2_p5_6_ok : putOk zW2 5 6 zW2_p5_6 := by
  intro S id x S' h
  unfold zW2_p5_6 at h
  by_cases h0 : id = 0
  · subst h0
    rw [if_pos rfl] at h
    cases h
    exact ⟨_, rfl, Nat.le_of_ble_eq_true rfl, rfl⟩
  rw [if_neg h0] at h
  cases h
set_option maxRecDepth 100000 in
theorem zW2_P : (∀ (S : ZT × ZT) (x : Int32), zW2_p5_2 S 0 x = some ((S.1.sSize x), S.2)) ∧
  (∀ (S : ZT × ZT) (x : Int32), zW2_p5_6 S 0 x = some ((S.1.sProgrammes x), S.2)) := by
  repeat' apply And.intro
  all_goals (intro S x; rfl)
abbrev nW2 : NT × NT → xW := tw2 nW 2
set_option maxRecDepth 100000 in
theorem nW2_F : (∀ S : NT × NT, getF (nW2 S) 1 0 0 = some (.ref 1)) ∧
  (∀ S : NT × NT, getF (nW2 S) 1 0 1 = some (.int S.1.size)) ∧
  (∀ S : NT × NT, getF (nW2 S) 1 0 2 = some (.int S.1.flow)) ∧
  (∀ S : NT × NT, getF (nW2 S) 1 0 3 = some (.int S.1.alarms)) ∧
  (∀ S : NT × NT, getF (nW2 S) 1 2 0 = some (.ref 3)) ∧
  (∀ S : NT × NT, getF (nW2 S) 1 2 1 = some (.int S.2.size)) ∧
  (∀ S : NT × NT, getF (nW2 S) 1 2 2 = some (.int S.2.flow)) ∧
  (∀ S : NT × NT, getF (nW2 S) 1 2 3 = some (.int S.2.alarms)) := by
  repeat' apply And.intro
  all_goals (intro S; rfl)
set_option maxRecDepth 100000 in
theorem nW2_A : (∀ S : NT × NT, getA (nW2 S) 1 = some (0, 7, S.1.noted)) ∧
  (∀ S : NT × NT, getA (nW2 S) 3 = some (0, 7, S.2.noted)) := by
  repeat' apply And.intro
  all_goals (intro S; rfl)
def nW2_sa (S : NT × NT) (id : Nat) (g : Nat → Int32) : Option (NT × NT) := if id = 1 then some ((S.1.sNoted g), S.2) else none
theorem nW2_sar : sarOk nW2 nW2_sa := by
  intro S id g S' t n f h hA
  unfold nW2_sa at h
  by_cases h1 : id = 1
  · subst h1
    rw [if_pos rfl] at h
    cases h
    cases hA
    rfl
  rw [if_neg h1] at h
  cases h
set_option maxRecDepth 100000 in
theorem nW2_S : (∀ (S : NT × NT) (g : Nat → Int32), nW2_sa S 1 g = some ((S.1.sNoted g), S.2)) ∧
  True := by
  repeat' apply And.intro
  all_goals first | trivial | (intro S g; rfl)
def nW2_p1_1 (S : NT × NT) (id : Nat) (x : Int32) : Option (NT × NT) := if id = 0 then some ((S.1.sSize x), S.2) else none
theorem nW2_p1_1_ok : putOk nW2 1 1 nW2_p1_1 := by
  intro S id x S' h
  unfold nW2_p1_1 at h
  by_cases h0 : id = 0
  · subst h0
    rw [if_pos rfl] at h
    cases h
    exact ⟨_, rfl, Nat.le_of_ble_eq_true rfl, rfl⟩
  rw [if_neg h0] at h
  cases h
def nW2_p1_2 (S : NT × NT) (id : Nat) (x : Int32) : Option (NT × NT) := if id = 0 then some ((S.1.sFlow x), S.2) else none
theorem nW2_p1_2_ok : putOk nW2 1 2 nW2_p1_2 := by
  intro S id x S' h
  unfold nW2_p1_2 at h
  by_cases h0 : id = 0
  · subst h0
    rw [if_pos rfl] at h
    cases h
    exact ⟨_, rfl, Nat.le_of_ble_eq_true rfl, rfl⟩
  rw [if_neg h0] at h
  cases h
def nW2_p1_3 (S : NT × NT) (id : Nat) (x : Int32) : Option (NT × NT) := if id = 0 then some ((S.1.sAlarms x), S.2) else none
theorem nW2_p1_3_ok : putOk nW2 1 3 nW2_p1_3 := by
  intro S id x S' h
  unfold nW2_p1_3 at h
  by_cases h0 : id = 0
  · subst h0
    rw [if_pos rfl] at h
    cases h
    exact ⟨_, rfl, Nat.le_of_ble_eq_true rfl, rfl⟩
  rw [if_neg h0] at h
  cases h
set_option maxRecDepth 100000 in
theorem nW2_P : (∀ (S : NT × NT) (x : Int32), nW2_p1_1 S 0 x = some ((S.1.sSize x), S.2)) ∧
  (∀ (S : NT × NT) (x : Int32), nW2_p1_2 S 0 x = some ((S.1.sFlow x), S.2)) ∧
  (∀ (S : NT × NT) (x : Int32), nW2_p1_3 S 0 x = some ((S.1.sAlarms x), S.2)) := by
  repeat' apply And.intro
  all_goals (intro S x; rfl)
abbrev eW2 : ET × ET → xW := tw2 eW 5
set_option maxRecDepth 100000 in
theorem eW2_F : (∀ S : ET × ET, getF (eW2 S) 0 0 0 = some (.ref 1)) ∧
  (∀ S : ET × ET, getF (eW2 S) 0 0 1 = some (.ref 2)) ∧
  (∀ S : ET × ET, getF (eW2 S) 0 0 2 = some (.ref 3)) ∧
  (∀ S : ET × ET, getF (eW2 S) 0 0 3 = some (.ref 4)) ∧
  (∀ S : ET × ET, getF (eW2 S) 0 0 4 = some (.int S.1.all)) ∧
  (∀ S : ET × ET, getF (eW2 S) 0 5 0 = some (.ref 6)) ∧
  (∀ S : ET × ET, getF (eW2 S) 0 5 1 = some (.ref 7)) ∧
  (∀ S : ET × ET, getF (eW2 S) 0 5 2 = some (.ref 8)) ∧
  (∀ S : ET × ET, getF (eW2 S) 0 5 3 = some (.ref 9)) ∧
  (∀ S : ET × ET, getF (eW2 S) 0 5 4 = some (.int S.2.all)) := by
  repeat' apply And.intro
  all_goals (intro S; rfl)
set_option maxRecDepth 100000 in
theorem eW2_A : (∀ S : ET × ET, getA (eW2 S) 1 = some (0, 12, S.1.kinds)) ∧
  (∀ S : ET × ET, getA (eW2 S) 2 = some (0, 12, S.1.times)) ∧
  (∀ S : ET × ET, getA (eW2 S) 3 = some (0, 12, S.1.pumps)) ∧
  (∀ S : ET × ET, getA (eW2 S) 4 = some (0, 8, S.1.latest)) ∧
  (∀ S : ET × ET, getA (eW2 S) 6 = some (0, 12, S.2.kinds)) ∧
  (∀ S : ET × ET, getA (eW2 S) 7 = some (0, 12, S.2.times)) ∧
  (∀ S : ET × ET, getA (eW2 S) 8 = some (0, 12, S.2.pumps)) ∧
  (∀ S : ET × ET, getA (eW2 S) 9 = some (0, 8, S.2.latest)) := by
  repeat' apply And.intro
  all_goals (intro S; rfl)
def eW2_sa (S : ET × ET) (id : Nat) (g : Nat → Int32) : Option (ET × ET) := if id = 1 then some ((S.1.sKinds g), S.2) else if id = 2 then some ((S.1.sTimes g), S.2) else if id = 3 then some ((S.1.sPumps g), S.2) else if id = 4 then some ((S.1.sLatest g), S.2) else none
theorem eW2_sar : sarOk eW2 eW2_sa := by
  intro S id g S' t n f h hA
  unfold eW2_sa at h
  by_cases h1 : id = 1
  · subst h1
    rw [if_pos rfl] at h
    cases h
    cases hA
    rfl
  rw [if_neg h1] at h
  by_cases h2 : id = 2
  · subst h2
    rw [if_pos rfl] at h
    cases h
    cases hA
    rfl
  rw [if_neg h2] at h
  by_cases h3 : id = 3
  · subst h3
    rw [if_pos rfl] at h
    cases h
    cases hA
    rfl
  rw [if_neg h3] at h
  by_cases h4 : id = 4
  · subst h4
    rw [if_pos rfl] at h
    cases h
    cases hA
    rfl
  rw [if_neg h4] at h
  cases h
set_option maxRecDepth 100000 in
theorem eW2_S : (∀ (S : ET × ET) (g : Nat → Int32), eW2_sa S 1 g = some ((S.1.sKinds g), S.2)) ∧
  (∀ (S : ET × ET) (g : Nat → Int32), eW2_sa S 2 g = some ((S.1.sTimes g), S.2)) ∧
  (∀ (S : ET × ET) (g : Nat → Int32), eW2_sa S 3 g = some ((S.1.sPumps g), S.2)) ∧
  (∀ (S : ET × ET) (g : Nat → Int32), eW2_sa S 4 g = some ((S.1.sLatest g), S.2)) ∧
  True := by
  repeat' apply And.intro
  all_goals first | trivial | (intro S g; rfl)
def eW2_p0_4 (S : ET × ET) (id : Nat) (x : Int32) : Option (ET × ET) := if id = 0 then some ((S.1.sAll x), S.2) else none
theorem eW2_p0_4_ok : putOk eW2 0 4 eW2_p0_4 := by
  intro S id x S' h
  unfold eW2_p0_4 at h
  by_cases h0 : id = 0
  · subst h0
    rw [if_pos rfl] at h
    cases h
    exact ⟨_, rfl, Nat.le_of_ble_eq_true rfl, rfl⟩
  rw [if_neg h0] at h
  cases h
set_option maxRecDepth 100000 in
theorem eW2_P : (∀ (S : ET × ET) (x : Int32), eW2_p0_4 S 0 x = some ((S.1.sAll x), S.2)) := by
  repeat' apply And.intro
  all_goals (intro S x; rfl)
abbrev stW2 : ST × ST → xW := tw2 stW 24
set_option maxRecDepth 100000 in
theorem stW2_F : (∀ S : ST × ST, getF (stW2 S) 4 0 0 = some (.ref 1)) ∧
  (∀ S : ST × ST, getF (stW2 S) 4 0 1 = some (.ref 2)) ∧
  (∀ S : ST × ST, getF (stW2 S) 4 0 2 = some (.ref 11)) ∧
  (∀ S : ST × ST, getF (stW2 S) 4 0 3 = some (.ref 17)) ∧
  (∀ S : ST × ST, getF (stW2 S) 4 0 4 = some (.ref 19)) ∧
  (∀ S : ST × ST, getF (stW2 S) 4 0 5 = some (.int S.1.time)) ∧
  (∀ S : ST × ST, getF (stW2 S) 4 0 6 = some (.int S.1.pressure)) ∧
  (∀ S : ST × ST, getF (stW2 S) 4 0 7 = some (.int S.1.level)) ∧
  (∀ S : ST × ST, getF (stW2 S) 4 0 8 = some (.int S.1.leak)) ∧
  (∀ S : ST × ST, getF (stW2 S) 4 0 9 = some (.int S.1.supply)) ∧
  (∀ S : ST × ST, getF (stW2 S) 4 0 10 = some (.int S.1.allSupplied)) ∧
  (∀ S : ST × ST, getF (stW2 S) 4 0 11 = some (.int S.1.dry)) ∧
  (∀ S : ST × ST, getF (stW2 S) 4 0 12 = some (.int S.1.dryMinutes)) ∧
  (∀ S : ST × ST, getF (stW2 S) 4 0 13 = some (.int S.1.trips)) ∧
  (∀ S : ST × ST, getF (stW2 S) 4 0 14 = some (.int S.1.toStart)) ∧
  (∀ S : ST × ST, getF (stW2 S) 4 0 15 = some (.int S.1.toStop)) ∧
  (∀ S : ST × ST, getF (stW2 S) 4 0 16 = some (.int S.1.toSleep)) ∧
  (∀ S : ST × ST, getF (stW2 S) 4 24 0 = some (.ref 25)) ∧
  (∀ S : ST × ST, getF (stW2 S) 4 24 1 = some (.ref 26)) ∧
  (∀ S : ST × ST, getF (stW2 S) 4 24 2 = some (.ref 35)) ∧
  (∀ S : ST × ST, getF (stW2 S) 4 24 3 = some (.ref 41)) ∧
  (∀ S : ST × ST, getF (stW2 S) 4 24 4 = some (.ref 43)) ∧
  (∀ S : ST × ST, getF (stW2 S) 4 24 5 = some (.int S.2.time)) ∧
  (∀ S : ST × ST, getF (stW2 S) 4 24 6 = some (.int S.2.pressure)) ∧
  (∀ S : ST × ST, getF (stW2 S) 4 24 7 = some (.int S.2.level)) ∧
  (∀ S : ST × ST, getF (stW2 S) 4 24 8 = some (.int S.2.leak)) ∧
  (∀ S : ST × ST, getF (stW2 S) 4 24 9 = some (.int S.2.supply)) ∧
  (∀ S : ST × ST, getF (stW2 S) 4 24 10 = some (.int S.2.allSupplied)) ∧
  (∀ S : ST × ST, getF (stW2 S) 4 24 11 = some (.int S.2.dry)) ∧
  (∀ S : ST × ST, getF (stW2 S) 4 24 12 = some (.int S.2.dryMinutes)) ∧
  (∀ S : ST × ST, getF (stW2 S) 4 24 13 = some (.int S.2.trips)) ∧
  (∀ S : ST × ST, getF (stW2 S) 4 24 14 = some (.int S.2.toStart)) ∧
  (∀ S : ST × ST, getF (stW2 S) 4 24 15 = some (.int S.2.toStop)) ∧
  (∀ S : ST × ST, getF (stW2 S) 4 24 16 = some (.int S.2.toSleep)) := by
  repeat' apply And.intro
  all_goals (intro S; rfl)
set_option maxRecDepth 100000 in
theorem stW2_A : (∀ S : ST × ST, getA (stW2 S) 1 = some (0, 19, S.1.settings)) ∧
  (∀ S : ST × ST, getA (stW2 S) 25 = some (0, 19, S.2.settings)) := by
  repeat' apply And.intro
  all_goals (intro S; rfl)
def stW2_sa (S : ST × ST) (id : Nat) (g : Nat → Int32) : Option (ST × ST) := if id = 1 then some ((S.1.sSettings g), S.2) else none
theorem stW2_sar : sarOk stW2 stW2_sa := by
  intro S id g S' t n f h hA
  unfold stW2_sa at h
  by_cases h1 : id = 1
  · subst h1
    rw [if_pos rfl] at h
    cases h
    cases hA
    rfl
  rw [if_neg h1] at h
  cases h
set_option maxRecDepth 100000 in
theorem stW2_S : (∀ (S : ST × ST) (g : Nat → Int32), stW2_sa S 1 g = some ((S.1.sSettings g), S.2)) ∧
  True := by
  repeat' apply And.intro
  all_goals first | trivial | (intro S g; rfl)
def stW2_p4_5 (S : ST × ST) (id : Nat) (x : Int32) : Option (ST × ST) := if id = 0 then some ((S.1.sTime x), S.2) else none
theorem stW2_p4_5_ok : putOk stW2 4 5 stW2_p4_5 := by
  intro S id x S' h
  unfold stW2_p4_5 at h
  by_cases h0 : id = 0
  · subst h0
    rw [if_pos rfl] at h
    cases h
    exact ⟨_, rfl, Nat.le_of_ble_eq_true rfl, rfl⟩
  rw [if_neg h0] at h
  cases h
def stW2_p4_6 (S : ST × ST) (id : Nat) (x : Int32) : Option (ST × ST) := if id = 0 then some ((S.1.sPressure x), S.2) else none
theorem stW2_p4_6_ok : putOk stW2 4 6 stW2_p4_6 := by
  intro S id x S' h
  unfold stW2_p4_6 at h
  by_cases h0 : id = 0
  · subst h0
    rw [if_pos rfl] at h
    cases h
    exact ⟨_, rfl, Nat.le_of_ble_eq_true rfl, rfl⟩
  rw [if_neg h0] at h
  cases h
def stW2_p4_7 (S : ST × ST) (id : Nat) (x : Int32) : Option (ST × ST) := if id = 0 then some ((S.1.sLevel x), S.2) else none
theorem stW2_p4_7_ok : putOk stW2 4 7 stW2_p4_7 := by
  intro S id x S' h
  unfold stW2_p4_7 at h
  by_cases h0 : id = 0
  · subst h0
    rw [if_pos rfl] at h
    cases h
    exact ⟨_, rfl, Nat.le_of_ble_eq_true rfl, rfl⟩
  rw [if_neg h0] at h
  cases h
def stW2_p4_8 (S : ST × ST) (id : Nat) (x : Int32) : Option (ST × ST) := if id = 0 then some ((S.1.sLeak x), S.2) else none
theorem stW2_p4_8_ok : putOk stW2 4 8 stW2_p4_8 := by
  intro S id x S' h
  unfold stW2_p4_8 at h
  by_cases h0 : id = 0
  · subst h0
    rw [if_pos rfl] at h
    cases h
    exact ⟨_, rfl, Nat.le_of_ble_eq_true rfl, rfl⟩
  rw [if_neg h0] at h
  cases h
def stW2_p4_9 (S : ST × ST) (id : Nat) (x : Int32) : Option (ST × ST) := if id = 0 then some ((S.1.sSupply x), S.2) else none
theorem stW2_p4_9_ok : putOk stW2 4 9 stW2_p4_9 := by
  intro S id x S' h
  unfold stW2_p4_9 at h
  by_cases h0 : id = 0
  · subst h0
    rw [if_pos rfl] at h
    cases h
    exact ⟨_, rfl, Nat.le_of_ble_eq_true rfl, rfl⟩
  rw [if_neg h0] at h
  cases h
def stW2_p4_10 (S : ST × ST) (id : Nat) (x : Int32) : Option (ST × ST) := if id = 0 then some ((S.1.sAllSupplied x), S.2) else none
theorem stW2_p4_10_ok : putOk stW2 4 10 stW2_p4_10 := by
  intro S id x S' h
  unfold stW2_p4_10 at h
  by_cases h0 : id = 0
  · subst h0
    rw [if_pos rfl] at h
    cases h
    exact ⟨_, rfl, Nat.le_of_ble_eq_true rfl, rfl⟩
  rw [if_neg h0] at h
  cases h
def stW2_p4_11 (S : ST × ST) (id : Nat) (x : Int32) : Option (ST × ST) := if id = 0 then some ((S.1.sDry x), S.2) else none
theorem stW2_p4_11_ok : putOk stW2 4 11 stW2_p4_11 := by
  intro S id x S' h
  unfold stW2_p4_11 at h
  by_cases h0 : id = 0
  · subst h0
    rw [if_pos rfl] at h
    cases h
    exact ⟨_, rfl, Nat.le_of_ble_eq_true rfl, rfl⟩
  rw [if_neg h0] at h
  cases h
def stW2_p4_12 (S : ST × ST) (id : Nat) (x : Int32) : Option (ST × ST) := if id = 0 then some ((S.1.sDryMinutes x), S.2) else none
theorem stW2_p4_12_ok : putOk stW2 4 12 stW2_p4_12 := by
  intro S id x S' h
  unfold stW2_p4_12 at h
  by_cases h0 : id = 0
  · subst h0
    rw [if_pos rfl] at h
    cases h
    exact ⟨_, rfl, Nat.le_of_ble_eq_true rfl, rfl⟩
  rw [if_neg h0] at h
  cases h
def stW2_p4_13 (S : ST × ST) (id : Nat) (x : Int32) : Option (ST × ST) := if id = 0 then some ((S.1.sTrips x), S.2) else none
theorem stW2_p4_13_ok : putOk stW2 4 13 stW2_p4_13 := by
  intro S id x S' h
  unfold stW2_p4_13 at h
  by_cases h0 : id = 0
  · subst h0
    rw [if_pos rfl] at h
    cases h
    exact ⟨_, rfl, Nat.le_of_ble_eq_true rfl, rfl⟩
  rw [if_neg h0] at h
  cases h
def stW2_p4_14 (S : ST × ST) (id : Nat) (x : Int32) : Option (ST × ST) := if id = 0 then some ((S.1.sToStart x), S.2) else none
theorem stW2_p4_14_ok : putOk stW2 4 14 stW2_p4_14 := by
  intro S id x S' h
  unfold stW2_p4_14 at h
  by_cases h0 : id = 0
  · subst h0
    rw [if_pos rfl] at h
    cases h
    exact ⟨_, rfl, Nat.le_of_ble_eq_true rfl, rfl⟩
  rw [if_neg h0] at h
  cases h
def stW2_p4_15 (S : ST × ST) (id : Nat) (x : Int32) : Option (ST × ST) := if id = 0 then some ((S.1.sToStop x), S.2) else none
theorem stW2_p4_15_ok : putOk stW2 4 15 stW2_p4_15 := by
  intro S id x S' h
  unfold stW2_p4_15 at h
  by_cases h0 : id = 0
  · subst h0
    rw [if_pos rfl] at h
    cases h
    exact ⟨_, rfl, Nat.le_of_ble_eq_true rfl, rfl⟩
  rw [if_neg h0] at h
  cases h
def stW2_p4_16 (S : ST × ST) (id : Nat) (x : Int32) : Option (ST × ST) := if id = 0 then some ((S.1.sToSleep x), S.2) else none
theorem stW2_p4_16_ok : putOk stW2 4 16 stW2_p4_16 := by
  intro S id x S' h
  unfold stW2_p4_16 at h
  by_cases h0 : id = 0
  · subst h0
    rw [if_pos rfl] at h
    cases h
    exact ⟨_, rfl, Nat.le_of_ble_eq_true rfl, rfl⟩
  rw [if_neg h0] at h
  cases h
set_option maxRecDepth 100000 in
theorem stW2_P : (∀ (S : ST × ST) (x : Int32), stW2_p4_5 S 0 x = some ((S.1.sTime x), S.2)) ∧
  (∀ (S : ST × ST) (x : Int32), stW2_p4_6 S 0 x = some ((S.1.sPressure x), S.2)) ∧
  (∀ (S : ST × ST) (x : Int32), stW2_p4_7 S 0 x = some ((S.1.sLevel x), S.2)) ∧
  (∀ (S : ST × ST) (x : Int32), stW2_p4_8 S 0 x = some ((S.1.sLeak x), S.2)) ∧
  (∀ (S : ST × ST) (x : Int32), stW2_p4_9 S 0 x = some ((S.1.sSupply x), S.2)) ∧
  (∀ (S : ST × ST) (x : Int32), stW2_p4_10 S 0 x = some ((S.1.sAllSupplied x), S.2)) ∧
  (∀ (S : ST × ST) (x : Int32), stW2_p4_11 S 0 x = some ((S.1.sDry x), S.2)) ∧
  (∀ (S : ST × ST) (x : Int32), stW2_p4_12 S 0 x = some ((S.1.sDryMinutes x), S.2)) ∧
  (∀ (S : ST × ST) (x : Int32), stW2_p4_13 S 0 x = some ((S.1.sTrips x), S.2)) ∧
  (∀ (S : ST × ST) (x : Int32), stW2_p4_14 S 0 x = some ((S.1.sToStart x), S.2)) ∧
  (∀ (S : ST × ST) (x : Int32), stW2_p4_15 S 0 x = some ((S.1.sToStop x), S.2)) ∧
  (∀ (S : ST × ST) (x : Int32), stW2_p4_16 S 0 x = some ((S.1.sToSleep x), S.2)) := by
  repeat' apply And.intro
  all_goals (intro S x; rfl)
