/-! ===== the places of two objects among the caller's ===== -/
theorem xcr_comp (ρ : Nat → Nat) (b : Nat) (c : xCell) : xcr ρ (xcr (fun i => b + i) c) = xcr (fun i => ρ (b + i)) c := by
  match c with
  | .inl a => rfl
  | .inr (.inl (ci, fs)) =>
    simp only [xcr, List.map_map]
    congr 3
    refine List.map_congr_left fun v _ => ?_
    cases v <;> rfl
  | .inr (.inr (n, f)) =>
    simp only [xcr]
    congr 3
    funext j
    cases f j <;> rfl
theorem sh_map (ρ : Nat → Nat) (b : Nat) (w : xW) : (sh b w).map (xcr ρ) = w.map (xcr (fun i => ρ (b + i))) := by
  rw [List.map_map]
  exact List.map_congr_left fun c _ => xcr_comp ρ b c
theorem sh_sh (a b : Nat) (w : xW) : sh a (sh b w) = sh (a + b) w := by
  rw [sh, sh_map]
  refine List.map_congr_left fun c _ => ?_
  congr 1
  funext i
  omega
theorem cut2 {α : Type} {A X B Y C : List α} {p q n : Nat} (hA : A.length = p) (hX : X.length = n) (hq : p + n + B.length = q) (hY : Y.length = n) : ((A ++ (X ++ (B ++ (Y ++ C)))).drop p).take n = X ∧ ((A ++ (X ++ (B ++ (Y ++ C)))).drop q).take n = Y := by
  refine ⟨by rw [List.drop_left' hA, List.take_left' hX], ?_⟩
  have e : A ++ (X ++ (B ++ (Y ++ C))) = (A ++ (X ++ B)) ++ (Y ++ C) := by simp only [List.append_assoc]
  rw [e, List.drop_left' (by simp only [List.length_append]; omega), List.take_left' hY]
theorem app_r {α : Type} {A R : List α} {p j : Nat} (hA : A.length = p) (h : p ≤ j) : (A ++ R)[j]? = R[j - p]? := by rw [List.getElem?_append_right (by omega), hA]
theorem app_l {α : Type} {A R : List α} {p j : Nat} (hA : A.length = p) (h : j < p) : (A ++ R)[j]? = A[j]? := List.getElem?_append_left (by omega)
theorem off2 {α : Type} {A X X' B Y Y' C : List α} {p q n : Nat} (hA : A.length = p) (hX : X.length = n) (hX' : X'.length = n) (hq : p + n + B.length = q) (hY : Y.length = n) (hY' : Y'.length = n) {j : Nat} (h1 : j < p ∨ p + n ≤ j) (h2 : j < q ∨ q + n ≤ j) : (A ++ (X' ++ (B ++ (Y' ++ C))))[j]? = (A ++ (X ++ (B ++ (Y ++ C))))[j]? := by
  by_cases a : j < p
  · exact (app_l hA a).trans (app_l hA a).symm
  · refine (app_r hA (by omega)).trans (Eq.trans ?_ (app_r hA (by omega)).symm)
    refine (app_r hX' (by omega)).trans (Eq.trans ?_ (app_r hX (by omega)).symm)
    by_cases b : j < q
    · exact (app_l rfl (by omega)).trans (app_l rfl (by omega)).symm
    · refine (app_r (p := q - p - n) (by omega) (by omega)).trans (Eq.trans ?_ (app_r (p := q - p - n) (by omega) (by omega)).symm)
      exact (app_r hY' (by omega)).trans (app_r hY (by omega)).symm
def wLoc {τ : Type} (toT : τ → xW) (n : Nat) : Prop := ∀ (a : τ) (ρ ρ' : Nat → Nat), (∀ i, i < n → ρ i = ρ' i) → (toT a).map (xcr ρ) = (toT a).map (xcr ρ')
theorem tw2_map {τ : Type} {toT : τ → xW} {n : Nat} (hc : wLoc toT n) (b1 b2 : Nat) (a b : τ) : (tw2 toT n (a, b)).map (xcr (r2 b1 b2 n)) = sh b1 (toT a) ++ sh b2 (toT b) := by
  show (toT a ++ sh n (toT b)).map _ = _
  rw [List.map_append, sh_map, hc a (r2 b1 b2 n) (fun i => b1 + i) (fun i hi => by unfold r2; rw [if_pos hi])]
  congr 1
  refine List.map_congr_left fun c _ => ?_
  congr 1
  funext i
  unfold r2
  rw [if_neg (by omega)]
  omega
theorem tw2_len {τ : Type} {toT : τ → xW} {n : Nat} (hl : ∀ a, (toT a).length = n) (u : τ × τ) : (tw2 toT n u).length = n + n := by
  simp only [tw2, sh, List.length_append, List.length_map, hl]
theorem Emb.pair {τ : Type} {toT : τ → xW} {n b1 b2 : Nat} (A B C : xW) {w w' : xW} {u u' : τ × τ} (hl : ∀ a, (toT a).length = n) (hc : wLoc toT n) (hA : A.length = b1) (hB : b1 + n + B.length = b2)
    (hw : w = A ++ (sh b1 (toT u.1) ++ (B ++ (sh b2 (toT u.2) ++ C)))) (hw' : w' = A ++ (sh b1 (toT u'.1) ++ (B ++ (sh b2 (toT u'.2) ++ C)))) : Emb (r2 b1 b2 n) w w' (tw2 toT n u) (tw2 toT n u') := by
  have hs : ∀ b a, (sh b (toT a)).length = n := fun b a => by simp only [sh, List.length_map, hl]
  have lw : ∀ {w : xW} {u : τ × τ}, w = A ++ (sh b1 (toT u.1) ++ (B ++ (sh b2 (toT u.2) ++ C))) → w.length = b1 + n + B.length + n + C.length := fun e => by
    rw [e]; simp only [List.length_append, hs, hA]; omega
  refine Emb.two (by omega) (tw2_len hl u) (tw2_len hl u') ((lw hw').trans (lw hw).symm) (by rw [lw hw]; omega) (by rw [lw hw]; omega) ?_ ?_ fun j h1 h2 => ?_
  · have h := cut2 (X := sh b1 (toT u.1)) (Y := sh b2 (toT u.2)) (C := C) hA (hs _ _) hB (hs _ _)
    rw [← hw] at h
    rw [h.1, h.2]
    exact tw2_map hc b1 b2 u.1 u.2
  · have h := cut2 (X := sh b1 (toT u'.1)) (Y := sh b2 (toT u'.2)) (C := C) hA (hs _ _) hB (hs _ _)
    rw [← hw'] at h
    rw [h.1, h.2]
    exact tw2_map hc b1 b2 u'.1 u'.2
  · rw [hw, hw']
    exact off2 hA (hs _ _) (hs _ _) hB (hs _ _) (hs _ _) h1 h2
theorem Emb.pair' {τ : Type} {toT : τ → xW} {n b1 b2 : Nat} (A B C : xW) {w w' : xW} {u u' : τ × τ} (hl : ∀ a, (toT a).length = n) (hc : wLoc toT n) (hA : A.length = b2) (hB : b2 + n + B.length = b1)
    (hw : w = A ++ (sh b2 (toT u.2) ++ (B ++ (sh b1 (toT u.1) ++ C)))) (hw' : w' = A ++ (sh b2 (toT u'.2) ++ (B ++ (sh b1 (toT u'.1) ++ C)))) : Emb (r2 b1 b2 n) w w' (tw2 toT n u) (tw2 toT n u') := by
  have hs : ∀ b a, (sh b (toT a)).length = n := fun b a => by simp only [sh, List.length_map, hl]
  have lw : ∀ {w : xW} {u : τ × τ}, w = A ++ (sh b2 (toT u.2) ++ (B ++ (sh b1 (toT u.1) ++ C))) → w.length = b2 + n + B.length + n + C.length := fun e => by
    rw [e]; simp only [List.length_append, hs, hA]; omega
  refine Emb.two (by omega) (tw2_len hl u) (tw2_len hl u') ((lw hw').trans (lw hw).symm) (by rw [lw hw]; omega) (by rw [lw hw]; omega) ?_ ?_ fun j h1 h2 => ?_
  · have h := cut2 (X := sh b2 (toT u.2)) (Y := sh b1 (toT u.1)) (C := C) hA (hs _ _) hB (hs _ _)
    rw [← hw] at h
    rw [h.1, h.2]
    exact tw2_map hc b1 b2 u.1 u.2
  · have h := cut2 (X := sh b2 (toT u'.2)) (Y := sh b1 (toT u'.1)) (C := C) hA (hs _ _) hB (hs _ _)
    rw [← hw'] at h
    rw [h.1, h.2]
    exact tw2_map hc b1 b2 u'.1 u'.2
  · rw [hw, hw']
    exact off2 hA (hs _ _) (hs _ _) hB (hs _ _) (hs _ _) h2 h1
theorem pW_loc : wLoc pW 9 := by
  intro S ρ ρ' h
  simp [pW, xcr, xrn, h 1 (by decide), h 2 (by decide), h 3 (by decide), h 4 (by decide), h 5 (by decide), h 6 (by decide), h 7 (by decide), h 8 (by decide)]
theorem zW_loc : wLoc zW 6 := by
  intro S ρ ρ' h
  simp [zW, xcr, xrn, h 1 (by decide), h 2 (by decide), h 3 (by decide), h 4 (by decide), h 5 (by decide)]
theorem nW_loc : wLoc nW 2 := by
  intro S ρ ρ' h
  simp [nW, xcr, xrn, h 1 (by decide)]
theorem eW_loc : wLoc eW 5 := by
  intro S ρ ρ' h
  simp [eW, xcr, xrn, h 1 (by decide), h 2 (by decide), h 3 (by decide), h 4 (by decide)]
def stH (S : ST) : xW := [.inr (.inl (4, [.ref 1, .ref 2, .ref 11, .ref 17, .ref 19, .int S.time, .int S.pressure, .int S.level, .int S.leak, .int S.supply, .int S.allSupplied, .int S.dry, .int S.dryMinutes, .int S.trips, .int S.toStart, .int S.toStop, .int S.toSleep])), .inl (0, 19, S.settings)]
theorem stW_eq (S : ST) : stW S = stH S ++ (sh 2 (pW S.P) ++ (sh 11 (zW S.Z) ++ (sh 17 (nW S.N) ++ sh 19 (eW S.E)))) := rfl
theorem stW_sh (b : Nat) (S : ST) : sh b (stW S) = sh b (stH S) ++ (sh (b + 2) (pW S.P) ++ (sh (b + 11) (zW S.Z) ++ (sh (b + 17) (nW S.N) ++ sh (b + 19) (eW S.E)))) := by
  rw [stW_eq]
  show List.map _ _ = _
  simp only [List.map_append]
  rw [← sh_sh, ← sh_sh, ← sh_sh, ← sh_sh]
theorem stW_loc : wLoc stW 24 := by
  intro S ρ ρ' h
  rw [stW_eq]
  simp only [List.map_append]
  rw [sh_map, sh_map, sh_map, sh_map, sh_map, sh_map, sh_map, sh_map, pW_loc S.P (fun i => ρ (2 + i)) (fun i => ρ' (2 + i)) (fun i hi => h _ (by omega)), zW_loc S.Z (fun i => ρ (11 + i)) (fun i => ρ' (11 + i)) (fun i hi => h _ (by omega)), nW_loc S.N (fun i => ρ (17 + i)) (fun i => ρ' (17 + i)) (fun i hi => h _ (by omega)), eW_loc S.E (fun i => ρ (19 + i)) (fun i => ρ' (19 + i)) (fun i hi => h _ (by omega))]
  simp [stH, xcr, xrn, h 1 (by decide), h 2 (by decide), h 11 (by decide), h 17 (by decide), h 19 (by decide)]
theorem stW2_eq (S : ST × ST) : stW2 S = stH S.1 ++ (sh 2 (pW S.1.P) ++ (sh 11 (zW S.1.Z) ++ (sh 17 (nW S.1.N) ++ (sh 19 (eW S.1.E) ++ (sh 24 (stH S.2) ++ (sh 26 (pW S.2.P) ++ (sh 35 (zW S.2.Z) ++ (sh 41 (nW S.2.N) ++ sh 43 (eW S.2.E))))))))) := by
  show stW S.1 ++ sh 24 (stW S.2) = _
  rw [stW_sh, stW_eq]
  simp only [List.append_assoc, Nat.reduceAdd]
def fpH (S : FT) : xW := [.inr (.inl (6, [.ref 1, .ref 25, .ref 49, .int S.states, .ref 50]))]
def fpM (S : FT) : xW := [.inr (.inr (4, S.perm))]
theorem fpW_eq (S : FT) : fpW S = fpH S ++ (sh 1 (stW S.now) ++ (sh 25 (stW S.trial) ++ (fpM S ++ (sh 50 (oW S.O) ++ (sh 52 (stW S.h0) ++ (sh 76 (stW S.h1) ++ (sh 100 (stW S.h2) ++ sh 124 (stW S.h3)))))))) := rfl
theorem ln2_st_P : Lens2 stW2 pW 2 26 9 (fun S : ST × ST => (S.1.P, S.2.P)) (fun S u => (S.1.sP u.1, S.2.sP u.2)) := fun S P' => Emb.pair (stH S.1) (sh 11 (zW S.1.Z) ++ (sh 17 (nW S.1.N) ++ (sh 19 (eW S.1.E) ++ (sh 24 (stH S.2))))) (sh 35 (zW S.2.Z) ++ (sh 41 (nW S.2.N) ++ (sh 43 (eW S.2.E)))) (fun _ => rfl) pW_loc rfl rfl ((stW2_eq S).trans (by simp only [List.append_assoc, List.append_nil])) ((stW2_eq _).trans (by simp only [List.append_assoc, List.append_nil]; rfl))
theorem ln2_st_Z : Lens2 stW2 zW 11 35 6 (fun S : ST × ST => (S.1.Z, S.2.Z)) (fun S u => (S.1.sZ u.1, S.2.sZ u.2)) := fun S P' => Emb.pair (stH S.1 ++ (sh 2 (pW S.1.P))) (sh 17 (nW S.1.N) ++ (sh 19 (eW S.1.E) ++ (sh 24 (stH S.2) ++ (sh 26 (pW S.2.P))))) (sh 41 (nW S.2.N) ++ (sh 43 (eW S.2.E))) (fun _ => rfl) zW_loc rfl rfl ((stW2_eq S).trans (by simp only [List.append_assoc, List.append_nil])) ((stW2_eq _).trans (by simp only [List.append_assoc, List.append_nil]; rfl))
theorem ln2_st_N : Lens2 stW2 nW 17 41 2 (fun S : ST × ST => (S.1.N, S.2.N)) (fun S u => (S.1.sN u.1, S.2.sN u.2)) := fun S P' => Emb.pair (stH S.1 ++ (sh 2 (pW S.1.P) ++ (sh 11 (zW S.1.Z)))) (sh 19 (eW S.1.E) ++ (sh 24 (stH S.2) ++ (sh 26 (pW S.2.P) ++ (sh 35 (zW S.2.Z))))) (sh 43 (eW S.2.E)) (fun _ => rfl) nW_loc rfl rfl ((stW2_eq S).trans (by simp only [List.append_assoc, List.append_nil])) ((stW2_eq _).trans (by simp only [List.append_assoc, List.append_nil]; rfl))
theorem ln2_st_E : Lens2 stW2 eW 19 43 5 (fun S : ST × ST => (S.1.E, S.2.E)) (fun S u => (S.1.sE u.1, S.2.sE u.2)) := fun S P' => Emb.pair (stH S.1 ++ (sh 2 (pW S.1.P) ++ (sh 11 (zW S.1.Z) ++ (sh 17 (nW S.1.N))))) (sh 24 (stH S.2) ++ (sh 26 (pW S.2.P) ++ (sh 35 (zW S.2.Z) ++ (sh 41 (nW S.2.N))))) [] (fun _ => rfl) eW_loc rfl rfl ((stW2_eq S).trans (by simp only [List.append_assoc, List.append_nil])) ((stW2_eq _).trans (by simp only [List.append_assoc, List.append_nil]; rfl))
theorem ln2_fp_now_trial : Lens2 fpW stW 1 25 24 (fun S : FT => (S.now, S.trial)) (fun S u => (S.sNow u.1).sTrial u.2) := fun S P' => Emb.pair (fpH S) [] (fpM S ++ (sh 50 (oW S.O) ++ (sh 52 (stW S.h0) ++ (sh 76 (stW S.h1) ++ (sh 100 (stW S.h2) ++ (sh 124 (stW S.h3))))))) (fun _ => rfl) stW_loc rfl rfl ((fpW_eq S).trans (by simp only [List.append_assoc, List.append_nil, List.nil_append])) ((fpW_eq _).trans (by simp only [List.append_assoc, List.append_nil, List.nil_append]; rfl))
theorem ln2_fp_trial_now : Lens2 fpW stW 25 1 24 (fun S : FT => (S.trial, S.now)) (fun S u => (S.sTrial u.1).sNow u.2) := fun S P' => Emb.pair' (fpH S) [] (fpM S ++ (sh 50 (oW S.O) ++ (sh 52 (stW S.h0) ++ (sh 76 (stW S.h1) ++ (sh 100 (stW S.h2) ++ (sh 124 (stW S.h3))))))) (fun _ => rfl) stW_loc rfl rfl ((fpW_eq S).trans (by simp only [List.append_assoc, List.append_nil, List.nil_append])) ((fpW_eq _).trans (by simp only [List.append_assoc, List.append_nil, List.nil_append]; rfl))
theorem ln2_fp_now_h0 : Lens2 fpW stW 1 52 24 (fun S : FT => (S.now, S.h0)) (fun S u => (S.sNow u.1).sH0 u.2) := fun S P' => Emb.pair (fpH S) (sh 25 (stW S.trial) ++ (fpM S ++ (sh 50 (oW S.O)))) (sh 76 (stW S.h1) ++ (sh 100 (stW S.h2) ++ (sh 124 (stW S.h3)))) (fun _ => rfl) stW_loc rfl rfl ((fpW_eq S).trans (by simp only [List.append_assoc, List.append_nil, List.nil_append])) ((fpW_eq _).trans (by simp only [List.append_assoc, List.append_nil, List.nil_append]; rfl))
theorem ln2_fp_h0_now : Lens2 fpW stW 52 1 24 (fun S : FT => (S.h0, S.now)) (fun S u => (S.sH0 u.1).sNow u.2) := fun S P' => Emb.pair' (fpH S) (sh 25 (stW S.trial) ++ (fpM S ++ (sh 50 (oW S.O)))) (sh 76 (stW S.h1) ++ (sh 100 (stW S.h2) ++ (sh 124 (stW S.h3)))) (fun _ => rfl) stW_loc rfl rfl ((fpW_eq S).trans (by simp only [List.append_assoc, List.append_nil, List.nil_append])) ((fpW_eq _).trans (by simp only [List.append_assoc, List.append_nil, List.nil_append]; rfl))
theorem ln2_fp_now_h1 : Lens2 fpW stW 1 76 24 (fun S : FT => (S.now, S.h1)) (fun S u => (S.sNow u.1).sH1 u.2) := fun S P' => Emb.pair (fpH S) (sh 25 (stW S.trial) ++ (fpM S ++ (sh 50 (oW S.O) ++ (sh 52 (stW S.h0))))) (sh 100 (stW S.h2) ++ (sh 124 (stW S.h3))) (fun _ => rfl) stW_loc rfl rfl ((fpW_eq S).trans (by simp only [List.append_assoc, List.append_nil, List.nil_append])) ((fpW_eq _).trans (by simp only [List.append_assoc, List.append_nil, List.nil_append]; rfl))
theorem ln2_fp_h1_now : Lens2 fpW stW 76 1 24 (fun S : FT => (S.h1, S.now)) (fun S u => (S.sH1 u.1).sNow u.2) := fun S P' => Emb.pair' (fpH S) (sh 25 (stW S.trial) ++ (fpM S ++ (sh 50 (oW S.O) ++ (sh 52 (stW S.h0))))) (sh 100 (stW S.h2) ++ (sh 124 (stW S.h3))) (fun _ => rfl) stW_loc rfl rfl ((fpW_eq S).trans (by simp only [List.append_assoc, List.append_nil, List.nil_append])) ((fpW_eq _).trans (by simp only [List.append_assoc, List.append_nil, List.nil_append]; rfl))
theorem ln2_fp_now_h2 : Lens2 fpW stW 1 100 24 (fun S : FT => (S.now, S.h2)) (fun S u => (S.sNow u.1).sH2 u.2) := fun S P' => Emb.pair (fpH S) (sh 25 (stW S.trial) ++ (fpM S ++ (sh 50 (oW S.O) ++ (sh 52 (stW S.h0) ++ (sh 76 (stW S.h1)))))) (sh 124 (stW S.h3)) (fun _ => rfl) stW_loc rfl rfl ((fpW_eq S).trans (by simp only [List.append_assoc, List.append_nil, List.nil_append])) ((fpW_eq _).trans (by simp only [List.append_assoc, List.append_nil, List.nil_append]; rfl))
theorem ln2_fp_h2_now : Lens2 fpW stW 100 1 24 (fun S : FT => (S.h2, S.now)) (fun S u => (S.sH2 u.1).sNow u.2) := fun S P' => Emb.pair' (fpH S) (sh 25 (stW S.trial) ++ (fpM S ++ (sh 50 (oW S.O) ++ (sh 52 (stW S.h0) ++ (sh 76 (stW S.h1)))))) (sh 124 (stW S.h3)) (fun _ => rfl) stW_loc rfl rfl ((fpW_eq S).trans (by simp only [List.append_assoc, List.append_nil, List.nil_append])) ((fpW_eq _).trans (by simp only [List.append_assoc, List.append_nil, List.nil_append]; rfl))
theorem ln2_fp_now_h3 : Lens2 fpW stW 1 124 24 (fun S : FT => (S.now, S.h3)) (fun S u => (S.sNow u.1).sH3 u.2) := fun S P' => Emb.pair (fpH S) (sh 25 (stW S.trial) ++ (fpM S ++ (sh 50 (oW S.O) ++ (sh 52 (stW S.h0) ++ (sh 76 (stW S.h1) ++ (sh 100 (stW S.h2))))))) [] (fun _ => rfl) stW_loc rfl rfl ((fpW_eq S).trans (by simp only [List.append_assoc, List.append_nil, List.nil_append])) ((fpW_eq _).trans (by simp only [List.append_assoc, List.append_nil, List.nil_append]; rfl))
theorem ln2_fp_h3_now : Lens2 fpW stW 124 1 24 (fun S : FT => (S.h3, S.now)) (fun S u => (S.sH3 u.1).sNow u.2) := fun S P' => Emb.pair' (fpH S) (sh 25 (stW S.trial) ++ (fpM S ++ (sh 50 (oW S.O) ++ (sh 52 (stW S.h0) ++ (sh 76 (stW S.h1) ++ (sh 100 (stW S.h2))))))) [] (fun _ => rfl) stW_loc rfl rfl ((fpW_eq S).trans (by simp only [List.append_assoc, List.append_nil, List.nil_append])) ((fpW_eq _).trans (by simp only [List.append_assoc, List.append_nil, List.nil_append]; rfl))
