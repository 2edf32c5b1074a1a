/-! ===== the law's loop ===== -/
theorem law_loop {E : En} {n : Nat} {xs : Nat → Int32} (C : CodOk E lW (cod_law n xs)) (hn : n ≤ 2048) (fin : ∀ (i : Int32) (S : LT), Gd E lW 836 [some (.ref 1003), some (.ref 0), some (.ref 148), some (.int i)] [] S) : ∀ (f t : Nat) (F : FT) (M : MT), 512 ≤ t + f → t ≤ 512 → Rel (RM * f) F M → Gd E lW 18 [some (.ref 1003), some (.ref 0), some (.ref 148), some (.int (nI (4 * t)))] [] (F, (F.now, M, false)) := by
  have sub4 : (nI n - 4).toInt = (n : Int) - 4 := pk_sub_toInt (b := 4) (by omega) (by omega)
  have cmp : ∀ t : Nat, t ≤ 512 → ((nI n - 4 < nI (4 * t)) ↔ ¬ 4 * t + 4 ≤ n) := fun t ht => by
    rw [Int32.lt_iff_toInt_lt, sub4, nI_toInt (by omega)]
    omega
  have exit : ∀ (t : Nat) (F : FT) (M : MT), t ≤ 512 → ¬ 4 * t + 4 ≤ n → Gd E lW 18 [some (.ref 1003), some (.ref 0), some (.ref 148), some (.int (nI (4 * t)))] [] (F, (F.now, M, false)) := by
    intro t F M ht h
    have hc := (cmp t ht).mpr h
    have hf := fin (nI (4 * t)) (F, (F.now, M, false))
    refine nx1_ok C cut_law 1000 ?_
    simp only [w_law, ops_eq, xst_eq, call_eq, oK_eq, Option.toList_some, Option.toList_none, List.cons_append, List.nil_append, List.length_cons, List.length_nil, true_and, and_true, Nat.reduceAdd, call_eq, O_g_eq, O_s_eq, spG_eq, hc]
    ((repeat' (with_reducible first | apply And.intro | intro _)) <;> first | (with_reducible assumption) | contradiction | (simp_all; done))
  intro f
  induction f with
  | zero =>
    intro t F M h1 h2 _
    exact exit t F M h2 (by omega)
  | succ f ih =>
    intro t F M h1 h2 h
    by_cases hc : 4 * t + 4 ≤ n
    · have hcc : ¬ nI n - 4 < nI (4 * t) := fun z => (cmp t h2).mp z hc
      have hj := nI_j t
      have hw := nI_w hc hn
      have kk : ∀ F' M', Rel (RM * f) F' M' → Gd E lW 830 [some (.ref 1003), some (.ref 0), some (.ref 148), some (.int (nI (4 * t)))] [] (F', (F'.now, M', false)) := by
        intro F' M' h'
        have hn2 := ih (t + 1) F' M' (by omega) (by omega) h'
        refine nx1_ok C cut_law 1000 ?_
        simp only [w_law, ops_eq, xst_eq, call_eq, oK_eq, Option.toList_some, Option.toList_none, List.cons_append, List.nil_append, List.length_cons, List.length_nil, true_and, and_true, Nat.reduceAdd, call_eq, O_g_eq, O_s_eq, spG_eq, hj]
        exact hn2
      have h : Rel (RM * f + RM) F M := h
      have c_set := lc_set C hn (t := t) (by omega) h kk
      have c_pump := lc_pump C hn (t := t) (by omega) h kk
      have c_service := lc_service C hn (t := t) (by omega) h kk
      have c_pumpOf := lc_pumpOf C hn (t := t) (by omega) h kk
      have c_curve := lc_curve C hn (t := t) (by omega) h kk
      have c_readyAt := lc_readyAt C hn (t := t) (by omega) h kk
      have c_balance := lc_balance C hn (t := t) (by omega) h kk
      have c_zone := lc_zone C hn (t := t) (by omega) h kk
      have c_open := lc_open C hn (t := t) (by omega) h kk
      have c_leak := lc_leak C hn (t := t) (by omega) h kk
      have c_programme := lc_programme C hn (t := t) (by omega) h kk
      have c_zoneOf := lc_zoneOf C hn (t := t) (by omega) h kk
      have c_fill := lc_fill C hn (t := t) (by omega) h kk
      have c_reset := lc_reset C hn (t := t) (by omega) h kk
      have c_pass := lc_pass C hn (t := t) (by omega) h kk
      have c_foresee := lc_foresee C hn (t := t) (by omega) h kk
      have c_foreseeEvent := lc_foreseeEvent C hn (t := t) (by omega) h kk
      have c_station := lc_station C hn (t := t) (by omega) h kk
      have c_nightAt := lc_nightAt C hn (t := t) (by omega) h kk
      have c_eventAt := lc_eventAt C hn (t := t) (by omega) h kk
      have c_count := lc_count C hn (t := t) (by omega) h kk
      have c_undo := lc_undo C hn (t := t) (by omega) h kk
      have c_type := lc_type C hn (t := t) (by omega) h kk
      have c_clearText := lc_clearText C hn (t := t) (by omega) h kk
      have c_fault := lc_fault C hn (t := t) (by omega) h kk
      have c_play := lc_play C hn (t := t) (by omega) h kk
      have c0 := kk F M (h.le (by omega))
      clear ih kk h hc h1 h2 exit fin cmp sub4 hn
      refine nx1_ok C cut_law 1000 ?_
      simp only [w_law, ops_eq, xst_eq, call_eq, oK_eq, Option.toList_some, Option.toList_none, List.cons_append, List.nil_append, List.length_cons, List.length_nil, true_and, and_true, Nat.reduceAdd, call_eq, O_g_eq, O_s_eq, spG_eq, hw, hcc]
      ((repeat' (with_reducible first | apply And.intro | intro _)) <;> first | (with_reducible assumption) | contradiction)
    · exact exit t F M h2 hc
