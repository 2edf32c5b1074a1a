/-! ===== the orders' calls answer alike ===== -/
theorem read_keep (O : OT) : O.read.2.text = O.text ∧ O.read.2.length = O.length ∧ O.read.2.place = O.place ∧ O.read.2.done = O.done := by
  unfold OT.read
  split
  · exact ⟨rfl, rfl, rfl, rfl⟩
  · have h := OT.digs_text 3 0 O.rd0
    generalize OT.digs 3 0 O.rd0 = q at *
    exact ⟨h.1, h.2.1, h.2.2.2.1, h.2.2.2.2⟩
theorem fr_f : (∀ (U : MT) (x : Int32), (U.sFaultReason x).faultReason = x) ∧ (∀ (U : MT) (x : Int32), (U.sFaultReason x).faultAt = U.faultAt) ∧ (∀ (U : MT) (x y z : Int32), (((U.sFaultReason x).sSeen y).sDone z).faultReason = x) ∧ (∀ (U : MT) (x y : Int32), ((U.sFaultReason x).sSeen y).done = U.done) ∧ (∀ (U : MT) (x : Int32), (U.sDone x).done = x) := ⟨fun _ _ => rfl, fun _ _ => rfl, fun _ _ _ _ => rfl, fun _ _ _ => rfl, fun _ _ => rfl⟩
theorem dn_f (U : MT) (T : ST) : (U.dn T).faultReason = 0 ∧ (U.dn T).done = U.done + 1 ∧ (U.dn T).place = U.place := by
  unfold MT.dn MT.doM
  refine ⟨fr_f.2.2.1 _ _ _ _, ?_, place_f.2 _ _ _ _⟩
  rw [fr_f.2.2.2.2, fr_f.2.2.2.1]
theorem ordR_stop {f : Nat} {T : ST} {U : MT} (h : ¬ U.faultReason = 0) : ordR f T U = (T, U) := by
  cases f with
  | zero => rfl
  | succ f => exact if_neg (fun z => h z.2)
theorem order_same {T : ST} {l k : Int32} (h : ¬ (T.order l k).1 = 0) : (T.order l k).2 = T := by
  unfold ST.order at h ⊢
  split at h
  · rename_i c
    rw [if_pos c]
    unfold ST.tStop at h ⊢
    split at h
    · rename_i d; rw [if_pos d]
    · rename_i d
      rw [if_neg d]
      split at h
      · rename_i e; rw [if_pos e]
      · exact absurd rfl h
  · rename_i c
    rw [if_neg c]
    split at h
    · rename_i c2
      rw [if_pos c2]
      unfold ST.tReset at h ⊢
      split at h
      · rename_i e; rw [if_pos e]
      · exact absurd rfl h
    · rename_i c2
      rw [if_neg c2]
      split at h
      · rename_i c3
        rw [if_pos c3]
        unfold ST.tPass at h ⊢
        split at h
        · exact absurd rfl h
        · rename_i e; rw [if_neg e]
      · rename_i c3
        rw [if_neg c3]
        unfold ST.tZone at h ⊢
        split at h
        · rename_i d; rw [if_pos d]
        · rename_i d
          rw [if_neg d]
          split at h
          · rename_i e; rw [if_pos e]
          · exact absurd rfl h
theorem ord_tie : ∀ (f p : Nat) (T : ST) (U : MT) (O : OT), tie U O → isN O.length O.n 60 → O.place = nI p → U.place = nI p → p ≤ 70 → 60 ≤ p + f → U.faultReason = 0 → U.done = O.done →
    (ordR (f + 1) T U).1 = (trys f T O).2.1 ∧ (ordR (f + 1) T U).2.faultReason = (trys f T O).1 ∧ (¬ (trys f T O).1 = 0 → (ordR (f + 1) T U).2.faultAt = (trys f T O).2.2.place) ∧ ((trys f T O).1 = 0 → (ordR (f + 1) T U).2.done = (trys f T O).2.2.done) := by
  intro f
  induction f with
  | zero =>
    intro p T U O h hO h1 h2 h3 h4 h5 h6
    have hn : ¬ U.place < U.textLong := by
      rw [h2, h.2, hO.1, nI_ltI (by omega) (by have := hO.2; omega)]
      have := hO.2
      omega
    have e : ordR 1 T U = (T, U) := if_neg (fun z => hn z.1)
    rw [e]
    exact ⟨rfl, h5, fun z => absurd rfl z, fun _ => h6⟩
  | succ f ih =>
    intro p T U O h hO h1 h2 h3 h4 h5 h6
    by_cases c : O.place < O.length
    · have c2 : U.place < U.textLong := by rw [h2, h.2, ← h1]; exact c
      have hp60 : p < 60 := by
        rw [h1, hO.1, nI_ltI (by omega) (by have := hO.2; omega)] at c
        have := hO.2
        omega
      have e : ordR (f + 1 + 1) T U = ordR (f + 1) (ordS T U).1 (ordS T U).2 := if_pos ⟨c2, h5⟩
      have hv : tie (U.sFaultAt U.place) O := h
      obtain ⟨r1, r2⟩ := rd_tie hv h1 (show (U.sFaultAt U.place).place = nI p from h2) (by omega) c
      obtain ⟨q1, q2, q3, q4⟩ := rr_kp U
      obtain ⟨k1, k2, k3, k4⟩ := read_keep O
      have hrr : (U.sFaultAt U.place).rdo.2 = U.rr := rfl
      rw [hrr] at r2
      rw [e]
      by_cases g : O.read.1 = false
      · have t : trys (f + 1) T O = (1, T, O.read.2) := by
          unfold trys
          rw [if_neg (fun z => z c), if_pos g]
        have s : ordS T U = (T, U.rr.sFaultReason 1) := by
          unfold ordS
          rw [if_pos (r1.trans g)]
        rw [t, s, ordR_stop (by rw [fr_f.1]; decide)]
        refine ⟨rfl, fr_f.1 _ _, fun _ => ?_, fun z => absurd (show (1 : Int32) = 0 from z) (by decide)⟩
        show (U.rr.sFaultReason 1).faultAt = O.read.2.place
        rw [fr_f.2.1, q2, k3, h2, h1]
      · have g2 : O.read.1 = true := by cases z : O.read.1 <;> simp_all
        obtain ⟨a1, a2, a3⟩ := r2 (r1.trans g2)
        by_cases d : (T.order O.read.2.letter O.read.2.number).1 = 0
        · have t : trys (f + 1) T O = trys f (T.order O.read.2.letter O.read.2.number).2 ((O.read.2.sPlace O.read.2.behind).sDone (O.read.2.done + 1)) := by
            conv => lhs; unfold trys
            rw [if_neg (fun z => z c), if_neg g, if_neg (fun z => z d)]
          have s : ordS T U = ((T.order O.read.2.letter O.read.2.number).2, U.rr.dn T) := by
            unfold ordS
            rw [if_neg (by rw [r1, g2]; decide), a1, a2, if_neg (fun z => z d)]
          obtain ⟨b1, b2, b3⟩ := dn_f U.rr T
          obtain ⟨k, z1, z2, z3⟩ := rdo_place (M := U.sFaultAt U.place) (p := p) h2
          have hb : O.read.2.behind = nI (p + k) := by rw [← a3]; exact z3
          have hkq := kq_tr q1 (dn_kq U.rr T)
          rw [t, s]
          refine ih (p + k) _ _ _ ⟨?_, ?_⟩ ?_ ?_ ?_ (by omega) (by omega) b1 ?_
          · show (U.rr.dn T).text = O.read.2.text
            rw [hkq.1, k1]; exact h.1
          · show (U.rr.dn T).textLong = O.read.2.length
            rw [hkq.2.1, k2]; exact h.2
          · have en : OT.n ((O.read.2.sPlace O.read.2.behind).sDone (O.read.2.done + 1)) = O.n := by
              unfold OT.n
              show O.read.2.length.toNatClampNeg = _
              rw [k2]
            show isN O.read.2.length _ 60
            rw [en, k2]
            exact hO
          · exact hb
          · rw [b3, a3]; exact hb
          · show (U.rr.dn T).done = O.read.2.done + 1
            rw [b2, q4, k4, h6]
        · have t : trys (f + 1) T O = ((T.order O.read.2.letter O.read.2.number).1, (T.order O.read.2.letter O.read.2.number).2, O.read.2) := by
            conv => lhs; unfold trys
            rw [if_neg (fun z => z c), if_neg g, if_pos d]
          have s : ordS T U = (T, U.rr.sFaultReason (T.order O.read.2.letter O.read.2.number).1) := by
            unfold ordS
            rw [if_neg (by rw [r1, g2]; decide), a1, a2, if_pos d]
          have hsame : (T.order O.read.2.letter O.read.2.number).2 = T := order_same d
          rw [t, s, ordR_stop (by rw [fr_f.1]; exact d)]
          refine ⟨hsame.symm, fr_f.1 _ _, fun _ => ?_, fun z => absurd z d⟩
          show (U.rr.sFaultReason _).faultAt = O.read.2.place
          rw [fr_f.2.1, q2, k3, h2, h1]
    · have c2 : ¬ U.place < U.textLong := by rw [h2, h.2, ← h1]; exact c
      have e : ordR (f + 1 + 1) T U = (T, U) := if_neg (fun z => c2 z.1)
      have t : trys (f + 1) T O = (0, T, O) := by
        unfold trys
        rw [if_pos c]
      rw [e, t]
      exact ⟨rfl, h5, fun z => absurd rfl z, fun _ => h6⟩
theorem trys_text : ∀ (f : Nat) (T : ST) (O : OT), (trys f T O).2.2.text = O.text ∧ (trys f T O).2.2.length = O.length
  | 0, T, O => ⟨rfl, rfl⟩
  | f + 1, T, O => by
    obtain ⟨k1, k2, k3, k4⟩ := read_keep O
    unfold trys
    split
    · exact ⟨rfl, rfl⟩
    · split
      · exact ⟨k1, k2⟩
      · split
        · exact ⟨k1, k2⟩
        · obtain ⟨a1, a2⟩ := trys_text f (T.order O.read.2.letter O.read.2.number).2 ((O.read.2.sPlace O.read.2.behind).sDone (O.read.2.done + 1))
          exact ⟨a1.trans k1, a2.trans k2⟩
theorem trys_inv : ∀ (f : Nat) {n : Nat} {T : ST} {O : OT}, T.inv (n + 5000 * f) → (trys f T O).2.1.inv n
  | 0, n, T, O, h => h
  | f + 1, n, T, O, h => by
    have h1 : (T.order O.read.2.letter O.read.2.number).2.inv (n + 5000 * f) := ST.order_inv (by rw [show n + 5000 * f + 5000 = n + 5000 * (f + 1) by omega]; exact h)
    unfold trys
    split
    · exact ST.inv_le h (by omega)
    · split
      · exact ST.inv_le h (by omega)
      · split
        · exact ST.inv_le h1 (by omega)
        · exact trys_inv f h1
section
variable {n : Nat} {F : FT} {M : MT}
theorem tried_tie (h : Rel n F M) (U : MT) (ht : U.text = M.text) (hl : U.textLong = M.textLong) : (ordR 61 F.now U.ini).1 = F.tried.2.1 ∧ (ordR 61 F.now U.ini).2.faultReason = F.tried.1 ∧ (¬ F.tried.1 = 0 → (ordR 61 F.now U.ini).2.faultAt = F.tried.2.2.place) ∧ (F.tried.1 = 0 → (ordR 61 F.now U.ini).2.done = F.tried.2.2.done) := by
  refine ord_tie 60 0 F.now U.ini ((F.O.sPlace 0).sDone 0) ⟨?_, ?_⟩ h.1.2.2.2.1 rfl rfl (by omega) (by omega) rfl rfl
  · exact ht.trans h.2.2.2.2.1
  · exact hl.trans h.2.2.2.2.2
theorem aft_now (F : FT) : F.aft.now = F.now := (so_now _ _).trans (tri_now _ _)
theorem Rel.aft (h : Rel n F M) : Rel n F.aft (tryM F.now M) := by
  have hq := tryM_kq F.now M
  obtain ⟨t1, t2⟩ := trys_text 60 F.now ((F.O.sPlace 0).sDone 0)
  have ho : F.tried.2.2.okc := (trys_ok 60 F.now ((F.O.sPlace 0).sDone 0) (ST.inv_okk h.2.1) (OT.next_okc h.1.2.2.2 0 0)).2
  have e1 : F.tried.2.2.text = F.O.text := t1
  have e2 : F.tried.2.2.length = F.O.length := t2
  refine (h.trial F.tried.2.1).sO ho.1 ho.2 hq.2.2.1 hq.2.2.2.1 ?_ ?_
  · rw [hq.1, e1]; exact h.2.2.2.2.1
  · rw [hq.2.1, e2]; exact h.2.2.2.2.2
theorem st_fault (h : Rel (n + RM) F M) (w : Int32) : Both n yX6_fault cX6_fault 3 7 yX7_fault cX7_fault 2 11 [.int w] F M := by
  have h1 := con_X6_fault F w h.1
  have h2 := con_X7_fault F.now M false w ⟨inv4 h, h.t.2, rfl⟩
  obtain ⟨t1, t2, t3, t4⟩ := tried_tie h (M.lay F.now) rfl rfl
  have e2 : (tryM F.now M).faultReason = F.tried.1 := t2
  have e3 : ¬ F.tried.1 = 0 → (tryM F.now M).faultAt = F.tried.2.2.place := t3
  by_cases c : inR w 0 1 = true
  · rw [if_neg (show ¬ inR w 0 1 = false by rw [c]; decide), if_pos c] at h1 h2
    rw [e2] at h2
    by_cases d : F.tried.1 = 0
    · rw [if_pos d] at h1 h2
      exact Both.mk h1 (aft_now F) h2 h.same.aft
    · rw [if_neg d] at h1 h2
      rw [e3 d] at h2
      exact Both.mk h1 (aft_now F) h2 h.same.aft
  · rw [if_neg c] at h1 h2
    rw [if_pos (bnot c)] at h1 h2
    exact Both.mk h1 rfl h2 h.same
theorem st_play (h : Rel (n + RM) F M)  : Both n yX6_play cX6_play 1 7 yX7_play cX7_play 1 11 [] F M := by
  have h1 := con_X6_play F h.1
  have h2 := con_X7_play F.now M false ⟨inv4 h, h.t.2, h.k.2, rfl⟩
  obtain ⟨t1, t2, t3, t4⟩ := tried_tie h (M.lay F.now) rfl rfl
  have e2 : (tryM F.now M).faultReason = F.tried.1 := t2
  have hq := tryM_kq F.now M
  obtain ⟨s1, s2⟩ := saveA_txt (tryM F.now M) F.now
  obtain ⟨p1, p2, p3, p4⟩ := tried_tie h ((tryM F.now M).saveA F.now) (s1.trans hq.1) (s2.trans hq.2.1)
  have q1 : (playR F.now M).1 = F.tried.2.1 := p1
  have q4 : F.tried.1 = 0 → (playR F.now M).2.done = F.tried.2.2.done := p4
  rw [e2] at h2
  by_cases d : F.tried.1 = 0
  · rw [if_pos d, if_pos d] at h1 h2
    rw [q4 d, q1] at h2
    have hk : ((tryM F.now M).saveA F.now).kq (playR F.now M).2 := kq_tr (ini_kq _) (ordR_kq 61 F.now _)
    have hT : F.tried.2.1.inv n := trys_inv 60 (ST.inv_le h.2.1 (by unfold RM; omega))
    have hR := Rel.rem h.same.aft hT
    rw [aft_now] at hR
    exact Both.mk h1 (rem_now _ _) h2 (hR.kr ⟨hk.2.2.1, hk.2.2.2.1, hk.1, hk.2.1⟩)
  · rw [if_neg d, if_neg d] at h1 h2
    exact Both.mk h1 (aft_now F) h2 h.same.aft
end
