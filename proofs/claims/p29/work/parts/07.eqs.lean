/-! ===== equations by which a walk is computed ===== -/
def oK {α : Type} (o : Option α) (k : α → Prop) : Prop := match o with
  | some v => k v
  | none => False
def oA (o : Option (Nat × Nat × (Nat → Int32))) (k : Nat → Nat → (Nat → Int32) → Prop) : Prop := match o with
  | some (t, n, f) => k t n f
  | none => False
def oR (o : Option (Nat × (Nat → Option Nat))) (k : Nat → (Nat → Option Nat) → Prop) : Prop := match o with
  | some (n, f) => k n f
  | none => False
theorem oK_eq : (∀ {α : Type} (v : α) (k : α → Prop), oK (some v) k = k v) ∧ (∀ (t n : Nat) (f : Nat → Int32) (k : Nat → Nat → (Nat → Int32) → Prop), oA (some (t, n, f)) k = k t n f) ∧ (∀ (n : Nat) (f : Nat → Option Nat) (k : Nat → (Nat → Option Nat) → Prop), oR (some (n, f)) k = k n f) := ⟨fun _ _ => rfl, fun _ _ _ _ => rfl, fun _ _ _ => rfl⟩
set_option maxRecDepth 100000 in
theorem xst_eq : (∀ (a : Option Value) (L : xL) (v : Value), xst1 (a :: L) 0 v = some v :: L) ∧
  (∀ (a b : Option Value) (L : xL) (v : Value), xst2 (a :: b :: L) 0 v = some v :: none :: L) ∧
  (∀  (b : Option Value) (L : xL) (v : Value), xst1 (none :: b :: L) 1 v = none :: some v :: L) ∧
  (∀  (b c : Option Value) (L : xL) (v : Value), xst2 (none :: b :: c :: L) 1 v = none :: some v :: none :: L) ∧
  (∀ (y : Int32) (b : Option Value) (L : xL) (v : Value), xst1 (some (.int y) :: b :: L) 1 v = some (.int y) :: some v :: L) ∧
  (∀ (y : Int32) (b c : Option Value) (L : xL) (v : Value), xst2 (some (.int y) :: b :: c :: L) 1 v = some (.int y) :: some v :: none :: L) ∧
  (∀ (y : Nat) (b : Option Value) (L : xL) (v : Value), xst1 (some (.ref y) :: b :: L) 1 v = some (.ref y) :: some v :: L) ∧
  (∀ (y : Nat) (b c : Option Value) (L : xL) (v : Value), xst2 (some (.ref y) :: b :: c :: L) 1 v = some (.ref y) :: some v :: none :: L) ∧
  (∀  (y : Int64) (b : Option Value) (L : xL) (v : Value), xst1 (some (.long y) :: b :: L) 1 v = none :: some v :: L) ∧
  (∀ (a0 : Option Value)  (b : Option Value) (L : xL) (v : Value), xst1 (a0 :: none :: b :: L) 2 v = a0 :: none :: some v :: L) ∧
  (∀ (a0 : Option Value)  (b c : Option Value) (L : xL) (v : Value), xst2 (a0 :: none :: b :: c :: L) 2 v = a0 :: none :: some v :: none :: L) ∧
  (∀ (a0 : Option Value) (y : Int32) (b : Option Value) (L : xL) (v : Value), xst1 (a0 :: some (.int y) :: b :: L) 2 v = a0 :: some (.int y) :: some v :: L) ∧
  (∀ (a0 : Option Value) (y : Int32) (b c : Option Value) (L : xL) (v : Value), xst2 (a0 :: some (.int y) :: b :: c :: L) 2 v = a0 :: some (.int y) :: some v :: none :: L) ∧
  (∀ (a0 : Option Value) (y : Nat) (b : Option Value) (L : xL) (v : Value), xst1 (a0 :: some (.ref y) :: b :: L) 2 v = a0 :: some (.ref y) :: some v :: L) ∧
  (∀ (a0 : Option Value) (y : Nat) (b c : Option Value) (L : xL) (v : Value), xst2 (a0 :: some (.ref y) :: b :: c :: L) 2 v = a0 :: some (.ref y) :: some v :: none :: L) ∧
  (∀ (a0 : Option Value)  (y : Int64) (b : Option Value) (L : xL) (v : Value), xst1 (a0 :: some (.long y) :: b :: L) 2 v = a0 :: none :: some v :: L) ∧
  (∀ (a0 a1 : Option Value)  (b : Option Value) (L : xL) (v : Value), xst1 (a0 :: a1 :: none :: b :: L) 3 v = a0 :: a1 :: none :: some v :: L) ∧
  (∀ (a0 a1 : Option Value)  (b c : Option Value) (L : xL) (v : Value), xst2 (a0 :: a1 :: none :: b :: c :: L) 3 v = a0 :: a1 :: none :: some v :: none :: L) ∧
  (∀ (a0 a1 : Option Value) (y : Int32) (b : Option Value) (L : xL) (v : Value), xst1 (a0 :: a1 :: some (.int y) :: b :: L) 3 v = a0 :: a1 :: some (.int y) :: some v :: L) ∧
  (∀ (a0 a1 : Option Value) (y : Int32) (b c : Option Value) (L : xL) (v : Value), xst2 (a0 :: a1 :: some (.int y) :: b :: c :: L) 3 v = a0 :: a1 :: some (.int y) :: some v :: none :: L) ∧
  (∀ (a0 a1 : Option Value) (y : Nat) (b : Option Value) (L : xL) (v : Value), xst1 (a0 :: a1 :: some (.ref y) :: b :: L) 3 v = a0 :: a1 :: some (.ref y) :: some v :: L) ∧
  (∀ (a0 a1 : Option Value) (y : Nat) (b c : Option Value) (L : xL) (v : Value), xst2 (a0 :: a1 :: some (.ref y) :: b :: c :: L) 3 v = a0 :: a1 :: some (.ref y) :: some v :: none :: L) ∧
  (∀ (a0 a1 : Option Value)  (y : Int64) (b : Option Value) (L : xL) (v : Value), xst1 (a0 :: a1 :: some (.long y) :: b :: L) 3 v = a0 :: a1 :: none :: some v :: L) ∧
  (∀ (a0 a1 a2 : Option Value)  (b : Option Value) (L : xL) (v : Value), xst1 (a0 :: a1 :: a2 :: none :: b :: L) 4 v = a0 :: a1 :: a2 :: none :: some v :: L) ∧
  (∀ (a0 a1 a2 : Option Value)  (b c : Option Value) (L : xL) (v : Value), xst2 (a0 :: a1 :: a2 :: none :: b :: c :: L) 4 v = a0 :: a1 :: a2 :: none :: some v :: none :: L) ∧
  (∀ (a0 a1 a2 : Option Value) (y : Int32) (b : Option Value) (L : xL) (v : Value), xst1 (a0 :: a1 :: a2 :: some (.int y) :: b :: L) 4 v = a0 :: a1 :: a2 :: some (.int y) :: some v :: L) ∧
  (∀ (a0 a1 a2 : Option Value) (y : Int32) (b c : Option Value) (L : xL) (v : Value), xst2 (a0 :: a1 :: a2 :: some (.int y) :: b :: c :: L) 4 v = a0 :: a1 :: a2 :: some (.int y) :: some v :: none :: L) ∧
  (∀ (a0 a1 a2 : Option Value) (y : Nat) (b : Option Value) (L : xL) (v : Value), xst1 (a0 :: a1 :: a2 :: some (.ref y) :: b :: L) 4 v = a0 :: a1 :: a2 :: some (.ref y) :: some v :: L) ∧
  (∀ (a0 a1 a2 : Option Value) (y : Nat) (b c : Option Value) (L : xL) (v : Value), xst2 (a0 :: a1 :: a2 :: some (.ref y) :: b :: c :: L) 4 v = a0 :: a1 :: a2 :: some (.ref y) :: some v :: none :: L) ∧
  (∀ (a0 a1 a2 : Option Value)  (y : Int64) (b : Option Value) (L : xL) (v : Value), xst1 (a0 :: a1 :: a2 :: some (.long y) :: b :: L) 4 v = a0 :: a1 :: a2 :: none :: some v :: L) ∧
  (∀ (a0 a1 a2 a3 : Option Value)  (b : Option Value) (L : xL) (v : Value), xst1 (a0 :: a1 :: a2 :: a3 :: none :: b :: L) 5 v = a0 :: a1 :: a2 :: a3 :: none :: some v :: L) ∧
  (∀ (a0 a1 a2 a3 : Option Value)  (b c : Option Value) (L : xL) (v : Value), xst2 (a0 :: a1 :: a2 :: a3 :: none :: b :: c :: L) 5 v = a0 :: a1 :: a2 :: a3 :: none :: some v :: none :: L) ∧
  (∀ (a0 a1 a2 a3 : Option Value) (y : Int32) (b : Option Value) (L : xL) (v : Value), xst1 (a0 :: a1 :: a2 :: a3 :: some (.int y) :: b :: L) 5 v = a0 :: a1 :: a2 :: a3 :: some (.int y) :: some v :: L) ∧
  (∀ (a0 a1 a2 a3 : Option Value) (y : Int32) (b c : Option Value) (L : xL) (v : Value), xst2 (a0 :: a1 :: a2 :: a3 :: some (.int y) :: b :: c :: L) 5 v = a0 :: a1 :: a2 :: a3 :: some (.int y) :: some v :: none :: L) ∧
  (∀ (a0 a1 a2 a3 : Option Value) (y : Nat) (b : Option Value) (L : xL) (v : Value), xst1 (a0 :: a1 :: a2 :: a3 :: some (.ref y) :: b :: L) 5 v = a0 :: a1 :: a2 :: a3 :: some (.ref y) :: some v :: L) ∧
  (∀ (a0 a1 a2 a3 : Option Value) (y : Nat) (b c : Option Value) (L : xL) (v : Value), xst2 (a0 :: a1 :: a2 :: a3 :: some (.ref y) :: b :: c :: L) 5 v = a0 :: a1 :: a2 :: a3 :: some (.ref y) :: some v :: none :: L) ∧
  (∀ (a0 a1 a2 a3 : Option Value)  (y : Int64) (b : Option Value) (L : xL) (v : Value), xst1 (a0 :: a1 :: a2 :: a3 :: some (.long y) :: b :: L) 5 v = a0 :: a1 :: a2 :: a3 :: none :: some v :: L) ∧
  (∀ (a0 a1 a2 a3 a4 : Option Value)  (b : Option Value) (L : xL) (v : Value), xst1 (a0 :: a1 :: a2 :: a3 :: a4 :: none :: b :: L) 6 v = a0 :: a1 :: a2 :: a3 :: a4 :: none :: some v :: L) ∧
  (∀ (a0 a1 a2 a3 a4 : Option Value)  (b c : Option Value) (L : xL) (v : Value), xst2 (a0 :: a1 :: a2 :: a3 :: a4 :: none :: b :: c :: L) 6 v = a0 :: a1 :: a2 :: a3 :: a4 :: none :: some v :: none :: L) ∧
  (∀ (a0 a1 a2 a3 a4 : Option Value) (y : Int32) (b : Option Value) (L : xL) (v : Value), xst1 (a0 :: a1 :: a2 :: a3 :: a4 :: some (.int y) :: b :: L) 6 v = a0 :: a1 :: a2 :: a3 :: a4 :: some (.int y) :: some v :: L) ∧
  (∀ (a0 a1 a2 a3 a4 : Option Value) (y : Int32) (b c : Option Value) (L : xL) (v : Value), xst2 (a0 :: a1 :: a2 :: a3 :: a4 :: some (.int y) :: b :: c :: L) 6 v = a0 :: a1 :: a2 :: a3 :: a4 :: some (.int y) :: some v :: none :: L) ∧
  (∀ (a0 a1 a2 a3 a4 : Option Value) (y : Nat) (b : Option Value) (L : xL) (v : Value), xst1 (a0 :: a1 :: a2 :: a3 :: a4 :: some (.ref y) :: b :: L) 6 v = a0 :: a1 :: a2 :: a3 :: a4 :: some (.ref y) :: some v :: L) ∧
  (∀ (a0 a1 a2 a3 a4 : Option Value) (y : Nat) (b c : Option Value) (L : xL) (v : Value), xst2 (a0 :: a1 :: a2 :: a3 :: a4 :: some (.ref y) :: b :: c :: L) 6 v = a0 :: a1 :: a2 :: a3 :: a4 :: some (.ref y) :: some v :: none :: L) ∧
  (∀ (a0 a1 a2 a3 a4 : Option Value)  (y : Int64) (b : Option Value) (L : xL) (v : Value), xst1 (a0 :: a1 :: a2 :: a3 :: a4 :: some (.long y) :: b :: L) 6 v = a0 :: a1 :: a2 :: a3 :: a4 :: none :: some v :: L) ∧
  (∀ (a0 a1 a2 a3 a4 a5 : Option Value)  (b : Option Value) (L : xL) (v : Value), xst1 (a0 :: a1 :: a2 :: a3 :: a4 :: a5 :: none :: b :: L) 7 v = a0 :: a1 :: a2 :: a3 :: a4 :: a5 :: none :: some v :: L) ∧
  (∀ (a0 a1 a2 a3 a4 a5 : Option Value)  (b c : Option Value) (L : xL) (v : Value), xst2 (a0 :: a1 :: a2 :: a3 :: a4 :: a5 :: none :: b :: c :: L) 7 v = a0 :: a1 :: a2 :: a3 :: a4 :: a5 :: none :: some v :: none :: L) ∧
  (∀ (a0 a1 a2 a3 a4 a5 : Option Value) (y : Int32) (b : Option Value) (L : xL) (v : Value), xst1 (a0 :: a1 :: a2 :: a3 :: a4 :: a5 :: some (.int y) :: b :: L) 7 v = a0 :: a1 :: a2 :: a3 :: a4 :: a5 :: some (.int y) :: some v :: L) ∧
  (∀ (a0 a1 a2 a3 a4 a5 : Option Value) (y : Int32) (b c : Option Value) (L : xL) (v : Value), xst2 (a0 :: a1 :: a2 :: a3 :: a4 :: a5 :: some (.int y) :: b :: c :: L) 7 v = a0 :: a1 :: a2 :: a3 :: a4 :: a5 :: some (.int y) :: some v :: none :: L) ∧
  (∀ (a0 a1 a2 a3 a4 a5 : Option Value) (y : Nat) (b : Option Value) (L : xL) (v : Value), xst1 (a0 :: a1 :: a2 :: a3 :: a4 :: a5 :: some (.ref y) :: b :: L) 7 v = a0 :: a1 :: a2 :: a3 :: a4 :: a5 :: some (.ref y) :: some v :: L) ∧
  (∀ (a0 a1 a2 a3 a4 a5 : Option Value) (y : Nat) (b c : Option Value) (L : xL) (v : Value), xst2 (a0 :: a1 :: a2 :: a3 :: a4 :: a5 :: some (.ref y) :: b :: c :: L) 7 v = a0 :: a1 :: a2 :: a3 :: a4 :: a5 :: some (.ref y) :: some v :: none :: L) ∧
  (∀ (a0 a1 a2 a3 a4 a5 : Option Value)  (y : Int64) (b : Option Value) (L : xL) (v : Value), xst1 (a0 :: a1 :: a2 :: a3 :: a4 :: a5 :: some (.long y) :: b :: L) 7 v = a0 :: a1 :: a2 :: a3 :: a4 :: a5 :: none :: some v :: L) ∧
  (∀ (a0 a1 a2 a3 a4 a5 a6 : Option Value)  (b : Option Value) (L : xL) (v : Value), xst1 (a0 :: a1 :: a2 :: a3 :: a4 :: a5 :: a6 :: none :: b :: L) 8 v = a0 :: a1 :: a2 :: a3 :: a4 :: a5 :: a6 :: none :: some v :: L) ∧
  (∀ (a0 a1 a2 a3 a4 a5 a6 : Option Value) (y : Int32) (b : Option Value) (L : xL) (v : Value), xst1 (a0 :: a1 :: a2 :: a3 :: a4 :: a5 :: a6 :: some (.int y) :: b :: L) 8 v = a0 :: a1 :: a2 :: a3 :: a4 :: a5 :: a6 :: some (.int y) :: some v :: L) ∧
  (∀ (a0 a1 a2 a3 a4 a5 a6 : Option Value) (y : Nat) (b : Option Value) (L : xL) (v : Value), xst1 (a0 :: a1 :: a2 :: a3 :: a4 :: a5 :: a6 :: some (.ref y) :: b :: L) 8 v = a0 :: a1 :: a2 :: a3 :: a4 :: a5 :: a6 :: some (.ref y) :: some v :: L) ∧
  (∀ (a0 a1 a2 a3 a4 a5 a6 a7 : Option Value)  (b : Option Value) (L : xL) (v : Value), xst1 (a0 :: a1 :: a2 :: a3 :: a4 :: a5 :: a6 :: a7 :: none :: b :: L) 9 v = a0 :: a1 :: a2 :: a3 :: a4 :: a5 :: a6 :: a7 :: none :: some v :: L) ∧
  (∀ (a0 a1 a2 a3 a4 a5 a6 a7 : Option Value) (y : Int32) (b : Option Value) (L : xL) (v : Value), xst1 (a0 :: a1 :: a2 :: a3 :: a4 :: a5 :: a6 :: a7 :: some (.int y) :: b :: L) 9 v = a0 :: a1 :: a2 :: a3 :: a4 :: a5 :: a6 :: a7 :: some (.int y) :: some v :: L) ∧
  (∀ (a0 a1 a2 a3 a4 a5 a6 a7 : Option Value) (y : Nat) (b : Option Value) (L : xL) (v : Value), xst1 (a0 :: a1 :: a2 :: a3 :: a4 :: a5 :: a6 :: a7 :: some (.ref y) :: b :: L) 9 v = a0 :: a1 :: a2 :: a3 :: a4 :: a5 :: a6 :: a7 :: some (.ref y) :: some v :: L) ∧
  (∀ (a0 a1 a2 a3 a4 a5 a6 a7 a8 : Option Value)  (b : Option Value) (L : xL) (v : Value), xst1 (a0 :: a1 :: a2 :: a3 :: a4 :: a5 :: a6 :: a7 :: a8 :: none :: b :: L) 10 v = a0 :: a1 :: a2 :: a3 :: a4 :: a5 :: a6 :: a7 :: a8 :: none :: some v :: L) ∧
  (∀ (a0 a1 a2 a3 a4 a5 a6 a7 a8 : Option Value) (y : Int32) (b : Option Value) (L : xL) (v : Value), xst1 (a0 :: a1 :: a2 :: a3 :: a4 :: a5 :: a6 :: a7 :: a8 :: some (.int y) :: b :: L) 10 v = a0 :: a1 :: a2 :: a3 :: a4 :: a5 :: a6 :: a7 :: a8 :: some (.int y) :: some v :: L) ∧
  (∀ (a0 a1 a2 a3 a4 a5 a6 a7 a8 : Option Value) (y : Nat) (b : Option Value) (L : xL) (v : Value), xst1 (a0 :: a1 :: a2 :: a3 :: a4 :: a5 :: a6 :: a7 :: a8 :: some (.ref y) :: b :: L) 10 v = a0 :: a1 :: a2 :: a3 :: a4 :: a5 :: a6 :: a7 :: a8 :: some (.ref y) :: some v :: L) ∧
  (∀ (a0 a1 a2 a3 a4 a5 a6 a7 a8 a9 : Option Value)  (b : Option Value) (L : xL) (v : Value), xst1 (a0 :: a1 :: a2 :: a3 :: a4 :: a5 :: a6 :: a7 :: a8 :: a9 :: none :: b :: L) 11 v = a0 :: a1 :: a2 :: a3 :: a4 :: a5 :: a6 :: a7 :: a8 :: a9 :: none :: some v :: L) ∧
  (∀ (a0 a1 a2 a3 a4 a5 a6 a7 a8 a9 : Option Value) (y : Int32) (b : Option Value) (L : xL) (v : Value), xst1 (a0 :: a1 :: a2 :: a3 :: a4 :: a5 :: a6 :: a7 :: a8 :: a9 :: some (.int y) :: b :: L) 11 v = a0 :: a1 :: a2 :: a3 :: a4 :: a5 :: a6 :: a7 :: a8 :: a9 :: some (.int y) :: some v :: L) ∧
  (∀ (a0 a1 a2 a3 a4 a5 a6 a7 a8 a9 : Option Value) (y : Nat) (b : Option Value) (L : xL) (v : Value), xst1 (a0 :: a1 :: a2 :: a3 :: a4 :: a5 :: a6 :: a7 :: a8 :: a9 :: some (.ref y) :: b :: L) 11 v = a0 :: a1 :: a2 :: a3 :: a4 :: a5 :: a6 :: a7 :: a8 :: a9 :: some (.ref y) :: some v :: L) ∧
  (∀ (a0 a1 a2 a3 a4 a5 a6 a7 a8 a9 a10 : Option Value)  (b : Option Value) (L : xL) (v : Value), xst1 (a0 :: a1 :: a2 :: a3 :: a4 :: a5 :: a6 :: a7 :: a8 :: a9 :: a10 :: none :: b :: L) 12 v = a0 :: a1 :: a2 :: a3 :: a4 :: a5 :: a6 :: a7 :: a8 :: a9 :: a10 :: none :: some v :: L) ∧
  (∀ (a0 a1 a2 a3 a4 a5 a6 a7 a8 a9 a10 : Option Value) (y : Int32) (b : Option Value) (L : xL) (v : Value), xst1 (a0 :: a1 :: a2 :: a3 :: a4 :: a5 :: a6 :: a7 :: a8 :: a9 :: a10 :: some (.int y) :: b :: L) 12 v = a0 :: a1 :: a2 :: a3 :: a4 :: a5 :: a6 :: a7 :: a8 :: a9 :: a10 :: some (.int y) :: some v :: L) ∧
  (∀ (a0 a1 a2 a3 a4 a5 a6 a7 a8 a9 a10 : Option Value) (y : Nat) (b : Option Value) (L : xL) (v : Value), xst1 (a0 :: a1 :: a2 :: a3 :: a4 :: a5 :: a6 :: a7 :: a8 :: a9 :: a10 :: some (.ref y) :: b :: L) 12 v = a0 :: a1 :: a2 :: a3 :: a4 :: a5 :: a6 :: a7 :: a8 :: a9 :: a10 :: some (.ref y) :: some v :: L) := by
  repeat' apply And.intro
  all_goals (intros; rfl)
set_option maxRecDepth 100000 in
set_option maxHeartbeats 4000000 in
theorem ops_eq : (∀ {σ : Type} (K : Kt σ) (pc : Nat) (S : σ) (L : xL) (r : List Value) (v : Int32) (len : Nat), O_int v len K pc L r S = K (pc + len) L (.int v :: r) S) ∧
  (∀ {σ : Type} (K : Kt σ) (pc : Nat) (S : σ) (L : xL) (r : List Value) (v : Int64) (len : Nat), O_long v len K pc L r S = K (pc + len) L (.long v :: r) S) ∧
  (∀ {σ : Type} (K : Kt σ) (pc : Nat) (S : σ) (L : xL) (r : List Value) (x : Int32) (len : Nat), O_iload 0 len K pc (some (.int x) :: L) r S = K (pc + len) (some (.int x) :: L) (.int x :: r) S) ∧
  (∀ {σ : Type} (K : Kt σ) (pc : Nat) (S : σ) (L : xL) (r : List Value) (x : Nat) (len : Nat), O_aload 0 len K pc (some (.ref x) :: L) r S = K (pc + len) (some (.ref x) :: L) (.ref x :: r) S) ∧
  (∀ {σ : Type} (K : Kt σ) (pc : Nat) (S : σ) (L : xL) (r : List Value) (x : Int64) (len : Nat), O_lload 0 len K pc (some (.long x) :: L) r S = K (pc + len) (some (.long x) :: L) (.long x :: r) S) ∧
  (∀ {σ : Type} (K : Kt σ) (pc : Nat) (S : σ) (L : xL) (r : List Value) (x v : Int32), O_iinc 0 v K pc (some (.int x) :: L) r S = K (pc + 3) (xst1 (some (.int x) :: L) 0 (.int (x + v))) r S) ∧
  (∀ {σ : Type} (K : Kt σ) (pc : Nat) (S : σ) (L : xL) (r : List Value) (a0 : Option Value) (x : Int32) (len : Nat), O_iload 1 len K pc (a0 :: some (.int x) :: L) r S = K (pc + len) (a0 :: some (.int x) :: L) (.int x :: r) S) ∧
  (∀ {σ : Type} (K : Kt σ) (pc : Nat) (S : σ) (L : xL) (r : List Value) (a0 : Option Value) (x : Nat) (len : Nat), O_aload 1 len K pc (a0 :: some (.ref x) :: L) r S = K (pc + len) (a0 :: some (.ref x) :: L) (.ref x :: r) S) ∧
  (∀ {σ : Type} (K : Kt σ) (pc : Nat) (S : σ) (L : xL) (r : List Value) (a0 : Option Value) (x : Int64) (len : Nat), O_lload 1 len K pc (a0 :: some (.long x) :: L) r S = K (pc + len) (a0 :: some (.long x) :: L) (.long x :: r) S) ∧
  (∀ {σ : Type} (K : Kt σ) (pc : Nat) (S : σ) (L : xL) (r : List Value) (a0 : Option Value) (x v : Int32), O_iinc 1 v K pc (a0 :: some (.int x) :: L) r S = K (pc + 3) (xst1 (a0 :: some (.int x) :: L) 1 (.int (x + v))) r S) ∧
  (∀ {σ : Type} (K : Kt σ) (pc : Nat) (S : σ) (L : xL) (r : List Value) (a0 a1 : Option Value) (x : Int32) (len : Nat), O_iload 2 len K pc (a0 :: a1 :: some (.int x) :: L) r S = K (pc + len) (a0 :: a1 :: some (.int x) :: L) (.int x :: r) S) ∧
  (∀ {σ : Type} (K : Kt σ) (pc : Nat) (S : σ) (L : xL) (r : List Value) (a0 a1 : Option Value) (x : Nat) (len : Nat), O_aload 2 len K pc (a0 :: a1 :: some (.ref x) :: L) r S = K (pc + len) (a0 :: a1 :: some (.ref x) :: L) (.ref x :: r) S) ∧
  (∀ {σ : Type} (K : Kt σ) (pc : Nat) (S : σ) (L : xL) (r : List Value) (a0 a1 : Option Value) (x : Int64) (len : Nat), O_lload 2 len K pc (a0 :: a1 :: some (.long x) :: L) r S = K (pc + len) (a0 :: a1 :: some (.long x) :: L) (.long x :: r) S) ∧
  (∀ {σ : Type} (K : Kt σ) (pc : Nat) (S : σ) (L : xL) (r : List Value) (a0 a1 : Option Value) (x v : Int32), O_iinc 2 v K pc (a0 :: a1 :: some (.int x) :: L) r S = K (pc + 3) (xst1 (a0 :: a1 :: some (.int x) :: L) 2 (.int (x + v))) r S) ∧
  (∀ {σ : Type} (K : Kt σ) (pc : Nat) (S : σ) (L : xL) (r : List Value) (a0 a1 a2 : Option Value) (x : Int32) (len : Nat), O_iload 3 len K pc (a0 :: a1 :: a2 :: some (.int x) :: L) r S = K (pc + len) (a0 :: a1 :: a2 :: some (.int x) :: L) (.int x :: r) S) ∧
  (∀ {σ : Type} (K : Kt σ) (pc : Nat) (S : σ) (L : xL) (r : List Value) (a0 a1 a2 : Option Value) (x : Nat) (len : Nat), O_aload 3 len K pc (a0 :: a1 :: a2 :: some (.ref x) :: L) r S = K (pc + len) (a0 :: a1 :: a2 :: some (.ref x) :: L) (.ref x :: r) S) ∧
  (∀ {σ : Type} (K : Kt σ) (pc : Nat) (S : σ) (L : xL) (r : List Value) (a0 a1 a2 : Option Value) (x : Int64) (len : Nat), O_lload 3 len K pc (a0 :: a1 :: a2 :: some (.long x) :: L) r S = K (pc + len) (a0 :: a1 :: a2 :: some (.long x) :: L) (.long x :: r) S) ∧
  (∀ {σ : Type} (K : Kt σ) (pc : Nat) (S : σ) (L : xL) (r : List Value) (a0 a1 a2 : Option Value) (x v : Int32), O_iinc 3 v K pc (a0 :: a1 :: a2 :: some (.int x) :: L) r S = K (pc + 3) (xst1 (a0 :: a1 :: a2 :: some (.int x) :: L) 3 (.int (x + v))) r S) ∧
  (∀ {σ : Type} (K : Kt σ) (pc : Nat) (S : σ) (L : xL) (r : List Value) (a0 a1 a2 a3 : Option Value) (x : Int32) (len : Nat), O_iload 4 len K pc (a0 :: a1 :: a2 :: a3 :: some (.int x) :: L) r S = K (pc + len) (a0 :: a1 :: a2 :: a3 :: some (.int x) :: L) (.int x :: r) S) ∧
  (∀ {σ : Type} (K : Kt σ) (pc : Nat) (S : σ) (L : xL) (r : List Value) (a0 a1 a2 a3 : Option Value) (x : Nat) (len : Nat), O_aload 4 len K pc (a0 :: a1 :: a2 :: a3 :: some (.ref x) :: L) r S = K (pc + len) (a0 :: a1 :: a2 :: a3 :: some (.ref x) :: L) (.ref x :: r) S) ∧
  (∀ {σ : Type} (K : Kt σ) (pc : Nat) (S : σ) (L : xL) (r : List Value) (a0 a1 a2 a3 : Option Value) (x : Int64) (len : Nat), O_lload 4 len K pc (a0 :: a1 :: a2 :: a3 :: some (.long x) :: L) r S = K (pc + len) (a0 :: a1 :: a2 :: a3 :: some (.long x) :: L) (.long x :: r) S) ∧
  (∀ {σ : Type} (K : Kt σ) (pc : Nat) (S : σ) (L : xL) (r : List Value) (a0 a1 a2 a3 : Option Value) (x v : Int32), O_iinc 4 v K pc (a0 :: a1 :: a2 :: a3 :: some (.int x) :: L) r S = K (pc + 3) (xst1 (a0 :: a1 :: a2 :: a3 :: some (.int x) :: L) 4 (.int (x + v))) r S) ∧
  (∀ {σ : Type} (K : Kt σ) (pc : Nat) (S : σ) (L : xL) (r : List Value) (a0 a1 a2 a3 a4 : Option Value) (x : Int32) (len : Nat), O_iload 5 len K pc (a0 :: a1 :: a2 :: a3 :: a4 :: some (.int x) :: L) r S = K (pc + len) (a0 :: a1 :: a2 :: a3 :: a4 :: some (.int x) :: L) (.int x :: r) S) ∧
  (∀ {σ : Type} (K : Kt σ) (pc : Nat) (S : σ) (L : xL) (r : List Value) (a0 a1 a2 a3 a4 : Option Value) (x : Nat) (len : Nat), O_aload 5 len K pc (a0 :: a1 :: a2 :: a3 :: a4 :: some (.ref x) :: L) r S = K (pc + len) (a0 :: a1 :: a2 :: a3 :: a4 :: some (.ref x) :: L) (.ref x :: r) S) ∧
  (∀ {σ : Type} (K : Kt σ) (pc : Nat) (S : σ) (L : xL) (r : List Value) (a0 a1 a2 a3 a4 : Option Value) (x : Int64) (len : Nat), O_lload 5 len K pc (a0 :: a1 :: a2 :: a3 :: a4 :: some (.long x) :: L) r S = K (pc + len) (a0 :: a1 :: a2 :: a3 :: a4 :: some (.long x) :: L) (.long x :: r) S) ∧
  (∀ {σ : Type} (K : Kt σ) (pc : Nat) (S : σ) (L : xL) (r : List Value) (a0 a1 a2 a3 a4 : Option Value) (x v : Int32), O_iinc 5 v K pc (a0 :: a1 :: a2 :: a3 :: a4 :: some (.int x) :: L) r S = K (pc + 3) (xst1 (a0 :: a1 :: a2 :: a3 :: a4 :: some (.int x) :: L) 5 (.int (x + v))) r S) ∧
  (∀ {σ : Type} (K : Kt σ) (pc : Nat) (S : σ) (L : xL) (r : List Value) (a0 a1 a2 a3 a4 a5 : Option Value) (x : Int32) (len : Nat), O_iload 6 len K pc (a0 :: a1 :: a2 :: a3 :: a4 :: a5 :: some (.int x) :: L) r S = K (pc + len) (a0 :: a1 :: a2 :: a3 :: a4 :: a5 :: some (.int x) :: L) (.int x :: r) S) ∧
  (∀ {σ : Type} (K : Kt σ) (pc : Nat) (S : σ) (L : xL) (r : List Value) (a0 a1 a2 a3 a4 a5 : Option Value) (x : Int64) (len : Nat), O_lload 6 len K pc (a0 :: a1 :: a2 :: a3 :: a4 :: a5 :: some (.long x) :: L) r S = K (pc + len) (a0 :: a1 :: a2 :: a3 :: a4 :: a5 :: some (.long x) :: L) (.long x :: r) S) ∧
  (∀ {σ : Type} (K : Kt σ) (pc : Nat) (S : σ) (L : xL) (r : List Value) (a0 a1 a2 a3 a4 a5 : Option Value) (x v : Int32), O_iinc 6 v K pc (a0 :: a1 :: a2 :: a3 :: a4 :: a5 :: some (.int x) :: L) r S = K (pc + 3) (xst1 (a0 :: a1 :: a2 :: a3 :: a4 :: a5 :: some (.int x) :: L) 6 (.int (x + v))) r S) ∧
  (∀ {σ : Type} (K : Kt σ) (pc : Nat) (S : σ) (L : xL) (r : List Value) (a0 a1 a2 a3 a4 a5 a6 : Option Value) (x : Int32) (len : Nat), O_iload 7 len K pc (a0 :: a1 :: a2 :: a3 :: a4 :: a5 :: a6 :: some (.int x) :: L) r S = K (pc + len) (a0 :: a1 :: a2 :: a3 :: a4 :: a5 :: a6 :: some (.int x) :: L) (.int x :: r) S) ∧
  (∀ {σ : Type} (K : Kt σ) (pc : Nat) (S : σ) (L : xL) (r : List Value) (a0 a1 a2 a3 a4 a5 a6 : Option Value) (x : Int64) (len : Nat), O_lload 7 len K pc (a0 :: a1 :: a2 :: a3 :: a4 :: a5 :: a6 :: some (.long x) :: L) r S = K (pc + len) (a0 :: a1 :: a2 :: a3 :: a4 :: a5 :: a6 :: some (.long x) :: L) (.long x :: r) S) ∧
  (∀ {σ : Type} (K : Kt σ) (pc : Nat) (S : σ) (L : xL) (r : List Value) (a0 a1 a2 a3 a4 a5 a6 : Option Value) (x v : Int32), O_iinc 7 v K pc (a0 :: a1 :: a2 :: a3 :: a4 :: a5 :: a6 :: some (.int x) :: L) r S = K (pc + 3) (xst1 (a0 :: a1 :: a2 :: a3 :: a4 :: a5 :: a6 :: some (.int x) :: L) 7 (.int (x + v))) r S) ∧
  (∀ {σ : Type} (K : Kt σ) (pc : Nat) (S : σ) (L : xL) (r : List Value) (a0 a1 a2 a3 a4 a5 a6 a7 : Option Value) (x : Int32) (len : Nat), O_iload 8 len K pc (a0 :: a1 :: a2 :: a3 :: a4 :: a5 :: a6 :: a7 :: some (.int x) :: L) r S = K (pc + len) (a0 :: a1 :: a2 :: a3 :: a4 :: a5 :: a6 :: a7 :: some (.int x) :: L) (.int x :: r) S) ∧
  (∀ {σ : Type} (K : Kt σ) (pc : Nat) (S : σ) (L : xL) (r : List Value) (a0 a1 a2 a3 a4 a5 a6 a7 : Option Value) (x v : Int32), O_iinc 8 v K pc (a0 :: a1 :: a2 :: a3 :: a4 :: a5 :: a6 :: a7 :: some (.int x) :: L) r S = K (pc + 3) (xst1 (a0 :: a1 :: a2 :: a3 :: a4 :: a5 :: a6 :: a7 :: some (.int x) :: L) 8 (.int (x + v))) r S) ∧
  (∀ {σ : Type} (K : Kt σ) (pc : Nat) (S : σ) (L : xL) (r : List Value) (a0 a1 a2 a3 a4 a5 a6 a7 a8 : Option Value) (x : Int32) (len : Nat), O_iload 9 len K pc (a0 :: a1 :: a2 :: a3 :: a4 :: a5 :: a6 :: a7 :: a8 :: some (.int x) :: L) r S = K (pc + len) (a0 :: a1 :: a2 :: a3 :: a4 :: a5 :: a6 :: a7 :: a8 :: some (.int x) :: L) (.int x :: r) S) ∧
  (∀ {σ : Type} (K : Kt σ) (pc : Nat) (S : σ) (L : xL) (r : List Value) (a0 a1 a2 a3 a4 a5 a6 a7 a8 : Option Value) (x v : Int32), O_iinc 9 v K pc (a0 :: a1 :: a2 :: a3 :: a4 :: a5 :: a6 :: a7 :: a8 :: some (.int x) :: L) r S = K (pc + 3) (xst1 (a0 :: a1 :: a2 :: a3 :: a4 :: a5 :: a6 :: a7 :: a8 :: some (.int x) :: L) 9 (.int (x + v))) r S) ∧
  (∀ {σ : Type} (K : Kt σ) (pc : Nat) (S : σ) (L : xL) (r : List Value) (a0 a1 a2 a3 a4 a5 a6 a7 a8 a9 : Option Value) (x : Int32) (len : Nat), O_iload 10 len K pc (a0 :: a1 :: a2 :: a3 :: a4 :: a5 :: a6 :: a7 :: a8 :: a9 :: some (.int x) :: L) r S = K (pc + len) (a0 :: a1 :: a2 :: a3 :: a4 :: a5 :: a6 :: a7 :: a8 :: a9 :: some (.int x) :: L) (.int x :: r) S) ∧
  (∀ {σ : Type} (K : Kt σ) (pc : Nat) (S : σ) (L : xL) (r : List Value) (a0 a1 a2 a3 a4 a5 a6 a7 a8 a9 : Option Value) (x v : Int32), O_iinc 10 v K pc (a0 :: a1 :: a2 :: a3 :: a4 :: a5 :: a6 :: a7 :: a8 :: a9 :: some (.int x) :: L) r S = K (pc + 3) (xst1 (a0 :: a1 :: a2 :: a3 :: a4 :: a5 :: a6 :: a7 :: a8 :: a9 :: some (.int x) :: L) 10 (.int (x + v))) r S) ∧
  (∀ {σ : Type} (K : Kt σ) (pc : Nat) (S : σ) (L : xL) (r : List Value) (a0 a1 a2 a3 a4 a5 a6 a7 a8 a9 a10 : Option Value) (x : Int32) (len : Nat), O_iload 11 len K pc (a0 :: a1 :: a2 :: a3 :: a4 :: a5 :: a6 :: a7 :: a8 :: a9 :: a10 :: some (.int x) :: L) r S = K (pc + len) (a0 :: a1 :: a2 :: a3 :: a4 :: a5 :: a6 :: a7 :: a8 :: a9 :: a10 :: some (.int x) :: L) (.int x :: r) S) ∧
  (∀ {σ : Type} (K : Kt σ) (pc : Nat) (S : σ) (L : xL) (r : List Value) (a0 a1 a2 a3 a4 a5 a6 a7 a8 a9 a10 : Option Value) (x v : Int32), O_iinc 11 v K pc (a0 :: a1 :: a2 :: a3 :: a4 :: a5 :: a6 :: a7 :: a8 :: a9 :: a10 :: some (.int x) :: L) r S = K (pc + 3) (xst1 (a0 :: a1 :: a2 :: a3 :: a4 :: a5 :: a6 :: a7 :: a8 :: a9 :: a10 :: some (.int x) :: L) 11 (.int (x + v))) r S) ∧
  (∀ {σ : Type} (K : Kt σ) (pc : Nat) (S : σ) (L : xL) (r : List Value) (a0 a1 a2 a3 a4 a5 a6 a7 a8 a9 a10 a11 : Option Value) (x : Int32) (len : Nat), O_iload 12 len K pc (a0 :: a1 :: a2 :: a3 :: a4 :: a5 :: a6 :: a7 :: a8 :: a9 :: a10 :: a11 :: some (.int x) :: L) r S = K (pc + len) (a0 :: a1 :: a2 :: a3 :: a4 :: a5 :: a6 :: a7 :: a8 :: a9 :: a10 :: a11 :: some (.int x) :: L) (.int x :: r) S) ∧
  (∀ {σ : Type} (K : Kt σ) (pc : Nat) (S : σ) (L : xL) (r : List Value) (a0 a1 a2 a3 a4 a5 a6 a7 a8 a9 a10 a11 : Option Value) (x v : Int32), O_iinc 12 v K pc (a0 :: a1 :: a2 :: a3 :: a4 :: a5 :: a6 :: a7 :: a8 :: a9 :: a10 :: a11 :: some (.int x) :: L) r S = K (pc + 3) (xst1 (a0 :: a1 :: a2 :: a3 :: a4 :: a5 :: a6 :: a7 :: a8 :: a9 :: a10 :: a11 :: some (.int x) :: L) 12 (.int (x + v))) r S) ∧
  (∀ {σ : Type} (K : Kt σ) (pc : Nat) (S : σ) (L : xL) (r : List Value) (x : Int32) (i len : Nat), O_istore i len K pc L (.int x :: r) S = K (pc + len) (xst1 L i (.int x)) r S) ∧
  (∀ {σ : Type} (K : Kt σ) (pc : Nat) (S : σ) (L : xL) (r : List Value) (x : Nat) (i len : Nat), O_astore i len K pc L (.ref x :: r) S = K (pc + len) (xst1 L i (.ref x)) r S) ∧
  (∀ {σ : Type} (K : Kt σ) (pc : Nat) (S : σ) (L : xL) (r : List Value) (x : Int64) (i len : Nat), O_lstore i len K pc L (.long x :: r) S = K (pc + len) (xst2 L i (.long x)) r S) ∧
  (∀ {σ : Type} (K : Kt σ) (pc : Nat) (S : σ) (L : xL) (r : List Value) (x : Int32), O_dup K pc L (.int x :: r) S = K (pc + 1) L (.int x :: .int x :: r) S) ∧
  (∀ {σ : Type} (K : Kt σ) (pc : Nat) (S : σ) (L : xL) (r : List Value) (x : Nat), O_dup K pc L (.ref x :: r) S = K (pc + 1) L (.ref x :: .ref x :: r) S) ∧
  (∀ {σ : Type} (K : Kt σ) (pc : Nat) (S : σ) (L : xL) (r : List Value) (x : Int32) (y : Nat), O_dup2 K pc L (.int x :: .ref y :: r) S = K (pc + 1) L (.int x :: .ref y :: .int x :: .ref y :: r) S) ∧
  (∀ {σ : Type} (K : Kt σ) (pc : Nat) (S : σ) (L : xL) (r : List Value) (x : Int32), O_pop K pc L (.int x :: r) S = K (pc + 1) L r S) ∧
  (∀ {σ : Type} (K : Kt σ) (pc : Nat) (S : σ) (L : xL) (r : List Value) (t : Nat), O_goto t K pc L r S = K t L r S) ∧
  (∀ {σ : Type} (K : Kt σ) (pc : Nat) (S : σ) (L : xL) (r : List Value) (t x : Nat), O_ifnonnull t K pc L (.ref x :: r) S = K t L r S) ∧
  (∀ {σ : Type} (K : Kt σ) (pc : Nat) (S : σ) (L : xL) (r : List Value) (x : Nat), O_ifnull K pc L (.ref x :: r) S = K (pc + 3) L r S) ∧
  (∀ {σ : Type} (K : Kt σ) (pc : Nat) (S : σ) (L : xL) (r : List Value) (x : Int32), O_i2l K pc L (.int x :: r) S = K (pc + 1) L (.long x.toInt64 :: r) S) ∧
  (∀ {σ : Type} (K : Kt σ) (pc : Nat) (S : σ) (L : xL) (r : List Value) (x : Int64), O_l2i K pc L (.long x :: r) S = K (pc + 1) L (.int x.toInt32 :: r) S) ∧
  (∀ {σ : Type} (K : Kt σ) (pc : Nat) (S : σ) (L : xL) (r : List Value) (x : Int32), O_i2c K pc L (.int x :: r) S = K (pc + 1) L (.int (x.toUInt32 % 65536).toInt32 :: r) S) ∧
  (∀ {σ : Type} (K : Kt σ) (pc : Nat) (S : σ) (L : xL) (r : List Value) (x : Int32), O_ineg K pc L (.int x :: r) S = K (pc + 1) L (.int (-x) :: r) S) ∧
  (∀ {σ : Type} (K : Kt σ) (pc : Nat) (S : σ) (L : xL) (r : List Value) (x y : Int64), O_lcmp K pc L (.long y :: .long x :: r) S = K (pc + 1) L (.int (lg_cmp x y) :: r) S) ∧
  (∀ {σ : Type} (K : Kt σ) (pc : Nat) (S : σ) (L : xL) (r : List Value) (x y : Int32), O_iadd K pc L (.int y :: .int x :: r) S = K (pc + 1) L (.int (x + y) :: r) S) ∧
  (∀ {σ : Type} (K : Kt σ) (pc : Nat) (S : σ) (L : xL) (r : List Value) (x y : Int32), O_isub K pc L (.int y :: .int x :: r) S = K (pc + 1) L (.int (x - y) :: r) S) ∧
  (∀ {σ : Type} (K : Kt σ) (pc : Nat) (S : σ) (L : xL) (r : List Value) (x y : Int32), O_imul K pc L (.int y :: .int x :: r) S = K (pc + 1) L (.int (x * y) :: r) S) ∧
  (∀ {σ : Type} (K : Kt σ) (pc : Nat) (S : σ) (L : xL) (r : List Value) (x y : Int32), O_iand K pc L (.int y :: .int x :: r) S = K (pc + 1) L (.int (x &&& y) :: r) S) ∧
  (∀ {σ : Type} (K : Kt σ) (pc : Nat) (S : σ) (L : xL) (r : List Value) (x y : Int32), O_ior K pc L (.int y :: .int x :: r) S = K (pc + 1) L (.int (x ||| y) :: r) S) ∧
  (∀ {σ : Type} (K : Kt σ) (pc : Nat) (S : σ) (L : xL) (r : List Value) (x y : Int64), O_ladd K pc L (.long y :: .long x :: r) S = K (pc + 1) L (.long (x + y) :: r) S) ∧
  (∀ {σ : Type} (K : Kt σ) (pc : Nat) (S : σ) (L : xL) (r : List Value) (x y : Int64), O_lsub K pc L (.long y :: .long x :: r) S = K (pc + 1) L (.long (x - y) :: r) S) ∧
  (∀ {σ : Type} (K : Kt σ) (pc : Nat) (S : σ) (L : xL) (r : List Value) (x y : Int64), O_lmul K pc L (.long y :: .long x :: r) S = K (pc + 1) L (.long (x * y) :: r) S) ∧
  (∀ {σ : Type} (K : Kt σ) (pc : Nat) (S : σ) (L : xL) (r : List Value) (x y : Int32), O_ishl K pc L (.int y :: .int x :: r) S = K (pc + 1) L (.int (x <<< (y &&& 31)) :: r) S) ∧
  (∀ {σ : Type} (K : Kt σ) (pc : Nat) (S : σ) (L : xL) (r : List Value) (x y : Int32), O_ishr K pc L (.int y :: .int x :: r) S = K (pc + 1) L (.int (x >>> (y &&& 31)) :: r) S) ∧
  (∀ {σ : Type} (K : Kt σ) (pc : Nat) (S : σ) (L : xL) (r : List Value) (x y : Int32), O_idiv K pc L (.int y :: .int x :: r) S = (¬ y = 0 ∧ K (pc + 1) L (.int (x / y) :: r) S)) ∧
  (∀ {σ : Type} (K : Kt σ) (pc : Nat) (S : σ) (L : xL) (r : List Value) (x y : Int32), O_irem K pc L (.int y :: .int x :: r) S = (¬ y = 0 ∧ K (pc + 1) L (.int (x - x / y * y) :: r) S)) ∧
  (∀ {σ : Type} (K : Kt σ) (pc : Nat) (S : σ) (L : xL) (r : List Value) (x y : Int64), O_ldiv K pc L (.long y :: .long x :: r) S = (¬ y = 0 ∧ K (pc + 1) L (.long (x / y) :: r) S)) ∧
  (∀ {σ : Type} (K : Kt σ) (pc : Nat) (S : σ) (L : xL) (r : List Value) (x y : Int32) (t : Nat), O_icmp_eq t K pc L (.int y :: .int x :: r) S = ((x = y → K t L r S) ∧ (¬ x = y → K (pc + 3) L r S))) ∧
  (∀ {σ : Type} (K : Kt σ) (pc : Nat) (S : σ) (L : xL) (r : List Value) (x : Int32) (t : Nat), O_if_eq t K pc L (.int x :: r) S = ((x = 0 → K t L r S) ∧ (¬ x = 0 → K (pc + 3) L r S))) ∧
  (∀ {σ : Type} (K : Kt σ) (pc : Nat) (S : σ) (L : xL) (r : List Value) (x y : Int32) (t : Nat), O_icmp_ne t K pc L (.int y :: .int x :: r) S = ((¬ x = y → K t L r S) ∧ (x = y → K (pc + 3) L r S))) ∧
  (∀ {σ : Type} (K : Kt σ) (pc : Nat) (S : σ) (L : xL) (r : List Value) (x : Int32) (t : Nat), O_if_ne t K pc L (.int x :: r) S = ((¬ x = 0 → K t L r S) ∧ (x = 0 → K (pc + 3) L r S))) ∧
  (∀ {σ : Type} (K : Kt σ) (pc : Nat) (S : σ) (L : xL) (r : List Value) (x y : Int32) (t : Nat), O_icmp_lt t K pc L (.int y :: .int x :: r) S = ((x < y → K t L r S) ∧ (¬ x < y → K (pc + 3) L r S))) ∧
  (∀ {σ : Type} (K : Kt σ) (pc : Nat) (S : σ) (L : xL) (r : List Value) (x : Int32) (t : Nat), O_if_lt t K pc L (.int x :: r) S = ((x < 0 → K t L r S) ∧ (¬ x < 0 → K (pc + 3) L r S))) ∧
  (∀ {σ : Type} (K : Kt σ) (pc : Nat) (S : σ) (L : xL) (r : List Value) (x y : Int32) (t : Nat), O_icmp_ge t K pc L (.int y :: .int x :: r) S = ((¬ x < y → K t L r S) ∧ (x < y → K (pc + 3) L r S))) ∧
  (∀ {σ : Type} (K : Kt σ) (pc : Nat) (S : σ) (L : xL) (r : List Value) (x : Int32) (t : Nat), O_if_ge t K pc L (.int x :: r) S = ((¬ x < 0 → K t L r S) ∧ (x < 0 → K (pc + 3) L r S))) ∧
  (∀ {σ : Type} (K : Kt σ) (pc : Nat) (S : σ) (L : xL) (r : List Value) (x y : Int32) (t : Nat), O_icmp_gt t K pc L (.int y :: .int x :: r) S = ((y < x → K t L r S) ∧ (¬ y < x → K (pc + 3) L r S))) ∧
  (∀ {σ : Type} (K : Kt σ) (pc : Nat) (S : σ) (L : xL) (r : List Value) (x : Int32) (t : Nat), O_if_gt t K pc L (.int x :: r) S = ((0 < x → K t L r S) ∧ (¬ 0 < x → K (pc + 3) L r S))) ∧
  (∀ {σ : Type} (K : Kt σ) (pc : Nat) (S : σ) (L : xL) (r : List Value) (x y : Int32) (t : Nat), O_icmp_le t K pc L (.int y :: .int x :: r) S = ((¬ y < x → K t L r S) ∧ (y < x → K (pc + 3) L r S))) ∧
  (∀ {σ : Type} (K : Kt σ) (pc : Nat) (S : σ) (L : xL) (r : List Value) (x : Int32) (t : Nat), O_if_le t K pc L (.int x :: r) S = ((¬ 0 < x → K t L r S) ∧ (0 < x → K (pc + 3) L r S))) ∧
  (∀ {σ : Type} (K : Kt σ) (pc : Nat) (S : σ) (L : xL) (r : List Value) (x : Int32) (cs : List (Int32 × Nat)) (dt : Nat), O_switch cs dt K pc L (.int x :: r) S = tsw K dt L r S x cs) ∧
  (∀ {σ : Type} (K : Kt σ) (S : σ) (L : xL) (r : List Value) (x : Int32) (dt : Nat), tsw K dt L r S x [] = K dt L r S) ∧
  (∀ {σ : Type} (K : Kt σ) (S : σ) (L : xL) (r : List Value) (x c : Int32) (t dt : Nat) (u : List (Int32 × Nat)), tsw K dt L r S x ((c, t) :: u) = ((x = c → K t L r S) ∧ (¬ x = c → tsw K dt L r S x u))) ∧
  (∀ {σ : Type} (K : Kt σ) (pc : Nat) (S : σ) (L : xL) (r : List Value) (toW : σ → xW) (ci slot id : Nat), O_getf toW ci slot K pc L (.ref id :: r) S = oK (getF (toW S) ci id slot) (fun v => K (pc + 3) L (v :: r) S)) ∧
  (∀ {σ : Type} (K : Kt σ) (pc : Nat) (S : σ) (L : xL) (r : List Value) (pf : σ → Nat → Int32 → Option σ) (id : Nat) (x : Int32), O_puti pf K pc L (.int x :: .ref id :: r) S = oK (pf S id x) (fun S' => K (pc + 3) L r S')) ∧
  (∀ {σ : Type} (K : Kt σ) (pc : Nat) (S : σ) (L : xL) (r : List Value) (pf : σ → Nat → Int32 → Option σ) (ty : FieldType) (id : Nat) (x : Int32), O_putn ty pf K pc L (.int x :: .ref id :: r) S = ((narrow ty (.int x) = .int x ∧ fits ty (.int x) = true) ∧ oK (pf S id x) (fun S' => K (pc + 3) L r S'))) ∧
  (∀ {σ : Type} (K : Kt σ) (pc : Nat) (S : σ) (L : xL) (r : List Value) (toW : σ → xW) (tag id : Nat) (i : Int32), O_ald toW tag K pc L (.int i :: .ref id :: r) S = oA (getA (toW S) id) (fun t n f => t = tag ∧ vp_in i n ∧ K (pc + 1) L (.int (f i.toNatClampNeg) :: r) S)) ∧
  (∀ {σ : Type} (K : Kt σ) (pc : Nat) (S : σ) (L : xL) (r : List Value) (toW : σ → xW) (sa : σ → Nat → (Nat → Int32) → Option σ) (tag id : Nat) (i x : Int32), O_ast toW tag sa K pc L (.int x :: .int i :: .ref id :: r) S = oA (getA (toW S) id) (fun t n f => t = tag ∧ vp_in i n ∧ oK (sa S id (upd f i.toNatClampNeg (xnar tag x))) (fun S' => K (pc + 1) L r S'))) ∧
  (∀ (x : Int32), xnar 0 x = x) ∧
  (∀ (x : Int32), xnar 1 x = vp_nar .boolean x) ∧
  (∀ (x : Int32), xnar 2 x = vp_nar .char x) ∧
  (∀ {σ : Type} (K : Kt σ) (pc : Nat) (S : σ) (L : xL) (r : List Value) (toW : σ → xW) (id : Nat) (i : Int32), O_aald toW K pc L (.int i :: .ref id :: r) S = oR (getR (toW S) id) (fun n f => vp_in i n ∧ oK (f i.toNatClampNeg) (fun k => K (pc + 1) L (.ref k :: r) S))) ∧
  (∀ {σ : Type} (K : Kt σ) (pc : Nat) (S : σ) (L : xL) (r : List Value) (toW : σ → xW) (sa : σ → Nat → (Nat → Option Nat) → Option σ) (v id : Nat) (i : Int32), O_aast toW sa K pc L (.ref v :: .int i :: .ref id :: r) S = oR (getR (toW S) id) (fun n f => vp_in i n ∧ (∃ fs, (toW S)[v]? = some (.inr (.inl (4, fs)))) ∧ oK (sa S id (va_up f i.toNatClampNeg (some v))) (fun S' => K (pc + 1) L r S'))) ∧
  (∀ {σ : Type} (K : Kt σ) (pc : Nat) (S : σ) (L : xL) (r : List Value) (x y : Int32), O_min K pc L (.int y :: .int x :: r) S = (r.length ≤ 4 ∧ K (pc + 3) L (.int (if y < x then y else x) :: r) S)) ∧
  (∀ {σ : Type} (K : Kt σ) (pc : Nat) (S : σ) (L : xL) (r : List Value) (x y : Int32), O_max K pc L (.int y :: .int x :: r) S = (r.length ≤ 4 ∧ K (pc + 3) L (.int (if x < y then y else x) :: r) S)) ∧
  (∀ {σ : Type} (K : Kt σ) (pc : Nat) (S : σ) (L : xL) (x : Int32), O_iret K pc L [.int x] S = K 100000 [] [.int x] S) ∧
  (∀ {σ : Type} (K : Kt σ) (pc : Nat) (S : σ) (L : xL) (x : Int32), O_zret K pc L [.int x] S = (narrow .boolean (.int x) = .int x ∧ K 100000 [] [.int x] S)) ∧
  (∀ {σ : Type} (K : Kt σ) (pc : Nat) (S : σ) (L : xL), O_vret K pc L [] S = K 100000 [] [] S) := by
  repeat' apply And.intro
  all_goals first | (intros; rfl) | (intros; simp only [O_getf, O_puti, O_putn, O_ald, O_ast, O_aald, O_aast, O_acopy, oK, oA, oR]; repeat' split) <;> first | rfl | simp_all
set_option maxRecDepth 100000 in
theorem call_eq : (∀ {σ τ : Type} (K : Kt σ) (pc : Nat) (S : σ) (L : xL) (r : List Value) (b k : Nat) (g : σ → τ) (f : σ → τ → σ) (sp : Sp τ), O_callV 0 b g f sp K pc L (.ref k :: r) S = (k = b ∧ r.length ≤ 4 ∧ sp [.ref 0] (g S) (fun v P' => K (pc + 3) L (v.toList ++ r) (f S P')))) ∧
  (∀ {σ τ : Type} (K : Kt σ) (pc : Nat) (S : σ) (L : xL) (r : List Value) (b k : Nat) (g : σ → τ) (f : σ → τ → σ) (sp : Sp τ) (x0 : Int32), O_callV 1 b g f sp K pc L (.int x0 :: .ref k :: r) S = (k = b ∧ r.length ≤ 4 ∧ sp [.ref 0, .int x0] (g S) (fun v P' => K (pc + 3) L (v.toList ++ r) (f S P')))) ∧
  (∀ {σ τ : Type} (K : Kt σ) (pc : Nat) (S : σ) (L : xL) (r : List Value) (b k : Nat) (g : σ → τ) (f : σ → τ → σ) (sp : Sp τ) (x0 x1 : Int32), O_callV 2 b g f sp K pc L (.int x1 :: .int x0 :: .ref k :: r) S = (k = b ∧ r.length ≤ 4 ∧ sp [.ref 0, .int x0, .int x1] (g S) (fun v P' => K (pc + 3) L (v.toList ++ r) (f S P')))) ∧
  (∀ {σ τ : Type} (K : Kt σ) (pc : Nat) (S : σ) (L : xL) (r : List Value) (b k : Nat) (g : σ → τ) (f : σ → τ → σ) (sp : Sp τ) (x0 x1 x2 : Int32), O_callV 3 b g f sp K pc L (.int x2 :: .int x1 :: .int x0 :: .ref k :: r) S = (k = b ∧ r.length ≤ 4 ∧ sp [.ref 0, .int x0, .int x1, .int x2] (g S) (fun v P' => K (pc + 3) L (v.toList ++ r) (f S P')))) ∧
  (∀ {σ τ : Type} (K : Kt σ) (pc : Nat) (S : σ) (L : xL) (r : List Value) (b k : Nat) (g : σ → τ) (f : σ → τ → σ) (sp : Sp τ) (x0 x1 x2 x3 : Int32), O_callV 4 b g f sp K pc L (.int x3 :: .int x2 :: .int x1 :: .int x0 :: .ref k :: r) S = (k = b ∧ r.length ≤ 4 ∧ sp [.ref 0, .int x0, .int x1, .int x2, .int x3] (g S) (fun v P' => K (pc + 3) L (v.toList ++ r) (f S P')))) ∧
  (∀ {σ : Type} (K : Kt σ) (pc : Nat) (S : σ) (L : xL) (r : List Value) (sp : Sp Unit) (x0 : Int32), O_callS 1 sp K pc L (.int x0 :: r) S = (r.length ≤ 4 ∧ sp [.int x0] () (fun v _ => K (pc + 3) L (v.toList ++ r) S))) ∧
  (∀ {σ : Type} (K : Kt σ) (pc : Nat) (S : σ) (L : xL) (r : List Value) (sp : Sp Unit) (x0 : Int64), O_callS 1 sp K pc L (.long x0 :: r) S = (r.length ≤ 4 ∧ sp [.long x0] () (fun v _ => K (pc + 3) L (v.toList ++ r) S))) ∧
  (∀ {σ : Type} (K : Kt σ) (pc : Nat) (S : σ) (L : xL) (r : List Value) (sp : Sp Unit) (x0 x1 : Int32), O_callS 2 sp K pc L (.int x1 :: .int x0 :: r) S = (r.length ≤ 4 ∧ sp [.int x0, .int x1] () (fun v _ => K (pc + 3) L (v.toList ++ r) S))) ∧
  (∀ {σ : Type} (K : Kt σ) (pc : Nat) (S : σ) (L : xL) (r : List Value) (sp : Sp Unit) (x0 x1 : Int64), O_callS 2 sp K pc L (.long x1 :: .long x0 :: r) S = (r.length ≤ 4 ∧ sp [.long x0, .long x1] () (fun v _ => K (pc + 3) L (v.toList ++ r) S))) ∧
  (∀ {σ : Type} (K : Kt σ) (pc : Nat) (S : σ) (L : xL) (r : List Value) (sp : Sp Unit) (x0 x1 x2 : Int32), O_callS 3 sp K pc L (.int x2 :: .int x1 :: .int x0 :: r) S = (r.length ≤ 4 ∧ sp [.int x0, .int x1, .int x2] () (fun v _ => K (pc + 3) L (v.toList ++ r) S))) ∧
  (∀ {σ : Type} (K : Kt σ) (pc : Nat) (S : σ) (L : xL) (r : List Value) (sp : Sp Unit) (x0 x1 x2 : Int64), O_callS 3 sp K pc L (.long x2 :: .long x1 :: .long x0 :: r) S = (r.length ≤ 4 ∧ sp [.long x0, .long x1, .long x2] () (fun v _ => K (pc + 3) L (v.toList ++ r) S))) ∧
  (∀ {σ : Type} (K : Kt σ) (pc : Nat) (S : σ) (L : xL) (r : List Value) (sp : Sp Unit) (x0 x1 : Int32), O_callS 2 sp K pc L (.int x1 :: .int x0 :: r) S = (r.length ≤ 4 ∧ sp [.int x0, .int x1] () (fun v _ => K (pc + 3) L (v.toList ++ r) S))) := by
  repeat' apply And.intro
  all_goals (intros; simp [O_callV, O_callS, xint])
theorem acopy_eq {σ : Type} (K : Kt σ) (pc : Nat) (S : σ) (L : xL) (r : List Value) (toW : σ → xW) (sa : σ → Nat → (Nat → Int32) → Option σ) (n dp sp : Int32) (a a0 : Nat) : O_acopy toW sa K pc L (.int n :: .int dp :: .ref a :: .int sp :: .ref a0 :: r) S = oA (getA (toW S) a0) (fun t0 n0 f => oA (getA (toW S) a) (fun t1 n1 _ => (t0 = t1 ∧ t1 < 3 ∧ n0 = n1 ∧ sp = 0 ∧ dp = 0 ∧ n.toNatClampNeg = n1 ∧ ¬ n < 0 ∧ r.length ≤ 4) ∧ (∀ i, i < n1 → fits (tagTy t1) (.int (f i)) = true) ∧ oK (sa S a f) (fun S' => K (pc + 3) L r S'))) := by
  unfold O_acopy oA oK
  dsimp only
  rcases getA (toW S) a0 with _ | ⟨t0, n0, f⟩
  · rfl
  · rcases getA (toW S) a with _ | ⟨t1, n1, g⟩
    · rfl
    · rfl
theorem xcr_0 (c : xCell) : xcr (fun i => 0 + i) c = c := by
  match c with
  | .inl a => rfl
  | .inr (.inl (ci, fs)) =>
    simp only [xcr]
    congr 3
    refine (List.map_congr_left fun v _ => ?_).trans (List.map_id fs)
    cases v <;> simp [xrn]
  | .inr (.inr (n, f)) =>
    simp only [xcr]
    congr 3
    funext j
    cases f j <;> simp
theorem ln_id {σ : Type} (toW : σ → xW) : Lens toW toW 0 (fun S => S) (fun _ S' => S') := by
  intro S P'
  have h : ∀ w : xW, w.map (xcr (fun i => 0 + i)) = w := fun w => (List.map_congr_left fun c _ => xcr_0 c).trans (List.map_id w)
  exact ⟨[], [], rfl, by rw [h, List.append_nil]; rfl, by rw [h, List.append_nil]; rfl⟩
set_option maxRecDepth 100000 in
theorem ln_st_P : Lens stW pW 2 (fun S : ST => S.P) (fun S u => S.sP u) := fun S P' => ⟨(stW S).take 2, (stW S).drop 11, rfl, rfl, rfl⟩
set_option maxRecDepth 100000 in
theorem ln_st_Z : Lens stW zW 11 (fun S : ST => S.Z) (fun S u => S.sZ u) := fun S P' => ⟨(stW S).take 11, (stW S).drop 17, rfl, rfl, rfl⟩
set_option maxRecDepth 100000 in
theorem ln_st_N : Lens stW nW 17 (fun S : ST => S.N) (fun S u => S.sN u) := fun S P' => ⟨(stW S).take 17, (stW S).drop 19, rfl, rfl, rfl⟩
set_option maxRecDepth 100000 in
theorem ln_st_E : Lens stW eW 19 (fun S : ST => S.E) (fun S u => S.sE u) := fun S P' => ⟨(stW S).take 19, (stW S).drop 24, rfl, rfl, rfl⟩
set_option maxRecDepth 100000 in
theorem ln_fp_now : Lens fpW stW 1 (fun S : FT => S.now) (fun S u => S.sNow u) := fun S P' => ⟨(fpW S).take 1, (fpW S).drop 25, rfl, rfl, rfl⟩
set_option maxRecDepth 100000 in
theorem ln_fp_now_P : Lens fpW pW 3 (fun S : FT => S.now.P) (fun S u => S.sNow (S.now.sP u)) := fun S P' => ⟨(fpW S).take 3, (fpW S).drop 12, rfl, rfl, rfl⟩
set_option maxRecDepth 100000 in
theorem ln_fp_now_Z : Lens fpW zW 12 (fun S : FT => S.now.Z) (fun S u => S.sNow (S.now.sZ u)) := fun S P' => ⟨(fpW S).take 12, (fpW S).drop 18, rfl, rfl, rfl⟩
set_option maxRecDepth 100000 in
theorem ln_fp_now_N : Lens fpW nW 18 (fun S : FT => S.now.N) (fun S u => S.sNow (S.now.sN u)) := fun S P' => ⟨(fpW S).take 18, (fpW S).drop 20, rfl, rfl, rfl⟩
set_option maxRecDepth 100000 in
theorem ln_fp_now_E : Lens fpW eW 20 (fun S : FT => S.now.E) (fun S u => S.sNow (S.now.sE u)) := fun S P' => ⟨(fpW S).take 20, (fpW S).drop 25, rfl, rfl, rfl⟩
set_option maxRecDepth 100000 in
theorem ln_fp_trial : Lens fpW stW 25 (fun S : FT => S.trial) (fun S u => S.sTrial u) := fun S P' => ⟨(fpW S).take 25, (fpW S).drop 49, rfl, rfl, rfl⟩
set_option maxRecDepth 100000 in
theorem ln_fp_trial_P : Lens fpW pW 27 (fun S : FT => S.trial.P) (fun S u => S.sTrial (S.trial.sP u)) := fun S P' => ⟨(fpW S).take 27, (fpW S).drop 36, rfl, rfl, rfl⟩
set_option maxRecDepth 100000 in
theorem ln_fp_trial_Z : Lens fpW zW 36 (fun S : FT => S.trial.Z) (fun S u => S.sTrial (S.trial.sZ u)) := fun S P' => ⟨(fpW S).take 36, (fpW S).drop 42, rfl, rfl, rfl⟩
set_option maxRecDepth 100000 in
theorem ln_fp_trial_N : Lens fpW nW 42 (fun S : FT => S.trial.N) (fun S u => S.sTrial (S.trial.sN u)) := fun S P' => ⟨(fpW S).take 42, (fpW S).drop 44, rfl, rfl, rfl⟩
set_option maxRecDepth 100000 in
theorem ln_fp_trial_E : Lens fpW eW 44 (fun S : FT => S.trial.E) (fun S u => S.sTrial (S.trial.sE u)) := fun S P' => ⟨(fpW S).take 44, (fpW S).drop 49, rfl, rfl, rfl⟩
set_option maxRecDepth 100000 in
theorem ln_fp_O : Lens fpW oW 50 (fun S : FT => S.O) (fun S u => S.sO u) := fun S P' => ⟨(fpW S).take 50, (fpW S).drop 52, rfl, rfl, rfl⟩
theorem rcv_eW : rcvOk eW RX0 := fun P => ⟨0, _, _, _, rfl, rfl⟩
theorem rcv_nW : rcvOk nW RX1 := fun P => ⟨1, _, _, _, rfl, rfl⟩
theorem rcv_oW : rcvOk oW RX2 := fun P => ⟨2, _, _, _, rfl, rfl⟩
theorem rcv_pW : rcvOk pW RX3 := fun P => ⟨3, _, _, _, rfl, rfl⟩
theorem rcv_stW : rcvOk stW RX4 := fun P => ⟨4, _, _, _, rfl, rfl⟩
theorem rcv_zW : rcvOk zW RX5 := fun P => ⟨5, _, _, _, rfl, rfl⟩
theorem rcv_fpW : rcvOk fpW RX6 := fun P => ⟨6, _, _, _, rfl, rfl⟩
