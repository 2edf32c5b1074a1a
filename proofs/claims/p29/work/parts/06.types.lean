/-! ===== the states: one tuple a class ===== -/
abbrev ET : Type := (Nat → Int32) × (Nat → Int32) × (Nat → Int32) × (Nat → Int32) × Int32
def ET.kinds (S : ET) : (Nat → Int32) := S.1
def ET.times (S : ET) : (Nat → Int32) := S.2.1
def ET.pumps (S : ET) : (Nat → Int32) := S.2.2.1
def ET.latest (S : ET) : (Nat → Int32) := S.2.2.2.1
def ET.all (S : ET) : Int32 := S.2.2.2.2
def ET.sKinds (S : ET) (x : (Nat → Int32)) : ET := (x, S.2.1, S.2.2.1, S.2.2.2.1, S.2.2.2.2)
def ET.sTimes (S : ET) (x : (Nat → Int32)) : ET := (S.1, x, S.2.2.1, S.2.2.2.1, S.2.2.2.2)
def ET.sPumps (S : ET) (x : (Nat → Int32)) : ET := (S.1, S.2.1, x, S.2.2.2.1, S.2.2.2.2)
def ET.sLatest (S : ET) (x : (Nat → Int32)) : ET := (S.1, S.2.1, S.2.2.1, x, S.2.2.2.2)
def ET.sAll (S : ET) (x : Int32) : ET := (S.1, S.2.1, S.2.2.1, S.2.2.2.1, x)
set_option maxRecDepth 100000 in
theorem ET_gs : (∀ (S : ET) (x : (Nat → Int32)), (S.sKinds x).kinds = x) ∧
  (∀ (S : ET) (x : (Nat → Int32)), (S.sKinds x).times = S.times) ∧
  (∀ (S : ET) (x : (Nat → Int32)), (S.sKinds x).pumps = S.pumps) ∧
  (∀ (S : ET) (x : (Nat → Int32)), (S.sKinds x).latest = S.latest) ∧
  (∀ (S : ET) (x : (Nat → Int32)), (S.sKinds x).all = S.all) ∧
  (∀ (S : ET) (x y : (Nat → Int32)), (S.sKinds x).sKinds y = S.sKinds y) ∧
  (∀ (S : ET) (x : (Nat → Int32)), (S.sTimes x).kinds = S.kinds) ∧
  (∀ (S : ET) (x : (Nat → Int32)), (S.sTimes x).times = x) ∧
  (∀ (S : ET) (x : (Nat → Int32)), (S.sTimes x).pumps = S.pumps) ∧
  (∀ (S : ET) (x : (Nat → Int32)), (S.sTimes x).latest = S.latest) ∧
  (∀ (S : ET) (x : (Nat → Int32)), (S.sTimes x).all = S.all) ∧
  (∀ (S : ET) (x y : (Nat → Int32)), (S.sTimes x).sTimes y = S.sTimes y) ∧
  (∀ (S : ET) (x : (Nat → Int32)), (S.sPumps x).kinds = S.kinds) ∧
  (∀ (S : ET) (x : (Nat → Int32)), (S.sPumps x).times = S.times) ∧
  (∀ (S : ET) (x : (Nat → Int32)), (S.sPumps x).pumps = x) ∧
  (∀ (S : ET) (x : (Nat → Int32)), (S.sPumps x).latest = S.latest) ∧
  (∀ (S : ET) (x : (Nat → Int32)), (S.sPumps x).all = S.all) ∧
  (∀ (S : ET) (x y : (Nat → Int32)), (S.sPumps x).sPumps y = S.sPumps y) ∧
  (∀ (S : ET) (x : (Nat → Int32)), (S.sLatest x).kinds = S.kinds) ∧
  (∀ (S : ET) (x : (Nat → Int32)), (S.sLatest x).times = S.times) ∧
  (∀ (S : ET) (x : (Nat → Int32)), (S.sLatest x).pumps = S.pumps) ∧
  (∀ (S : ET) (x : (Nat → Int32)), (S.sLatest x).latest = x) ∧
  (∀ (S : ET) (x : (Nat → Int32)), (S.sLatest x).all = S.all) ∧
  (∀ (S : ET) (x y : (Nat → Int32)), (S.sLatest x).sLatest y = S.sLatest y) ∧
  (∀ (S : ET) (x : Int32), (S.sAll x).kinds = S.kinds) ∧
  (∀ (S : ET) (x : Int32), (S.sAll x).times = S.times) ∧
  (∀ (S : ET) (x : Int32), (S.sAll x).pumps = S.pumps) ∧
  (∀ (S : ET) (x : Int32), (S.sAll x).latest = S.latest) ∧
  (∀ (S : ET) (x : Int32), (S.sAll x).all = x) ∧
  (∀ (S : ET) (x y : Int32), (S.sAll x).sAll y = S.sAll y) := by
  repeat' apply And.intro
  all_goals (intros; rfl)
theorem ET.ext' {a b : ET} (h0 : a.kinds = b.kinds) (h1 : a.times = b.times) (h2 : a.pumps = b.pumps) (h3 : a.latest = b.latest) (h4 : a.all = b.all) : a = b := by
  unfold ET.kinds ET.times ET.pumps ET.latest ET.all at *
  exact Prod.ext h0 (Prod.ext h1 (Prod.ext h2 (Prod.ext h3 h4)))
abbrev NT : Type := (Nat → Int32) × Int32 × Int32 × Int32
def NT.noted (S : NT) : (Nat → Int32) := S.1
def NT.size (S : NT) : Int32 := S.2.1
def NT.flow (S : NT) : Int32 := S.2.2.1
def NT.alarms (S : NT) : Int32 := S.2.2.2
def NT.sNoted (S : NT) (x : (Nat → Int32)) : NT := (x, S.2.1, S.2.2.1, S.2.2.2)
def NT.sSize (S : NT) (x : Int32) : NT := (S.1, x, S.2.2.1, S.2.2.2)
def NT.sFlow (S : NT) (x : Int32) : NT := (S.1, S.2.1, x, S.2.2.2)
def NT.sAlarms (S : NT) (x : Int32) : NT := (S.1, S.2.1, S.2.2.1, x)
set_option maxRecDepth 100000 in
theorem NT_gs : (∀ (S : NT) (x : (Nat → Int32)), (S.sNoted x).noted = x) ∧
  (∀ (S : NT) (x : (Nat → Int32)), (S.sNoted x).size = S.size) ∧
  (∀ (S : NT) (x : (Nat → Int32)), (S.sNoted x).flow = S.flow) ∧
  (∀ (S : NT) (x : (Nat → Int32)), (S.sNoted x).alarms = S.alarms) ∧
  (∀ (S : NT) (x y : (Nat → Int32)), (S.sNoted x).sNoted y = S.sNoted y) ∧
  (∀ (S : NT) (x : Int32), (S.sSize x).noted = S.noted) ∧
  (∀ (S : NT) (x : Int32), (S.sSize x).size = x) ∧
  (∀ (S : NT) (x : Int32), (S.sSize x).flow = S.flow) ∧
  (∀ (S : NT) (x : Int32), (S.sSize x).alarms = S.alarms) ∧
  (∀ (S : NT) (x y : Int32), (S.sSize x).sSize y = S.sSize y) ∧
  (∀ (S : NT) (x : Int32), (S.sFlow x).noted = S.noted) ∧
  (∀ (S : NT) (x : Int32), (S.sFlow x).size = S.size) ∧
  (∀ (S : NT) (x : Int32), (S.sFlow x).flow = x) ∧
  (∀ (S : NT) (x : Int32), (S.sFlow x).alarms = S.alarms) ∧
  (∀ (S : NT) (x y : Int32), (S.sFlow x).sFlow y = S.sFlow y) ∧
  (∀ (S : NT) (x : Int32), (S.sAlarms x).noted = S.noted) ∧
  (∀ (S : NT) (x : Int32), (S.sAlarms x).size = S.size) ∧
  (∀ (S : NT) (x : Int32), (S.sAlarms x).flow = S.flow) ∧
  (∀ (S : NT) (x : Int32), (S.sAlarms x).alarms = x) ∧
  (∀ (S : NT) (x y : Int32), (S.sAlarms x).sAlarms y = S.sAlarms y) := by
  repeat' apply And.intro
  all_goals (intros; rfl)
theorem NT.ext' {a b : NT} (h0 : a.noted = b.noted) (h1 : a.size = b.size) (h2 : a.flow = b.flow) (h3 : a.alarms = b.alarms) : a = b := by
  unfold NT.noted NT.size NT.flow NT.alarms at *
  exact Prod.ext h0 (Prod.ext h1 (Prod.ext h2 h3))
abbrev OT : Type := (Nat → Int32) × Int32 × Int32 × Int32 × Int32 × Int32 × Int32
def OT.text (S : OT) : (Nat → Int32) := S.1
def OT.length (S : OT) : Int32 := S.2.1
def OT.place (S : OT) : Int32 := S.2.2.1
def OT.behind (S : OT) : Int32 := S.2.2.2.1
def OT.done (S : OT) : Int32 := S.2.2.2.2.1
def OT.letter (S : OT) : Int32 := S.2.2.2.2.2.1
def OT.number (S : OT) : Int32 := S.2.2.2.2.2.2
def OT.sText (S : OT) (x : (Nat → Int32)) : OT := (x, S.2.1, S.2.2.1, S.2.2.2.1, S.2.2.2.2.1, S.2.2.2.2.2.1, S.2.2.2.2.2.2)
def OT.sLength (S : OT) (x : Int32) : OT := (S.1, x, S.2.2.1, S.2.2.2.1, S.2.2.2.2.1, S.2.2.2.2.2.1, S.2.2.2.2.2.2)
def OT.sPlace (S : OT) (x : Int32) : OT := (S.1, S.2.1, x, S.2.2.2.1, S.2.2.2.2.1, S.2.2.2.2.2.1, S.2.2.2.2.2.2)
def OT.sBehind (S : OT) (x : Int32) : OT := (S.1, S.2.1, S.2.2.1, x, S.2.2.2.2.1, S.2.2.2.2.2.1, S.2.2.2.2.2.2)
def OT.sDone (S : OT) (x : Int32) : OT := (S.1, S.2.1, S.2.2.1, S.2.2.2.1, x, S.2.2.2.2.2.1, S.2.2.2.2.2.2)
def OT.sLetter (S : OT) (x : Int32) : OT := (S.1, S.2.1, S.2.2.1, S.2.2.2.1, S.2.2.2.2.1, x, S.2.2.2.2.2.2)
def OT.sNumber (S : OT) (x : Int32) : OT := (S.1, S.2.1, S.2.2.1, S.2.2.2.1, S.2.2.2.2.1, S.2.2.2.2.2.1, x)
set_option maxRecDepth 100000 in
theorem OT_gs : (∀ (S : OT) (x : (Nat → Int32)), (S.sText x).text = x) ∧
  (∀ (S : OT) (x : (Nat → Int32)), (S.sText x).length = S.length) ∧
  (∀ (S : OT) (x : (Nat → Int32)), (S.sText x).place = S.place) ∧
  (∀ (S : OT) (x : (Nat → Int32)), (S.sText x).behind = S.behind) ∧
  (∀ (S : OT) (x : (Nat → Int32)), (S.sText x).done = S.done) ∧
  (∀ (S : OT) (x : (Nat → Int32)), (S.sText x).letter = S.letter) ∧
  (∀ (S : OT) (x : (Nat → Int32)), (S.sText x).number = S.number) ∧
  (∀ (S : OT) (x y : (Nat → Int32)), (S.sText x).sText y = S.sText y) ∧
  (∀ (S : OT) (x : Int32), (S.sLength x).text = S.text) ∧
  (∀ (S : OT) (x : Int32), (S.sLength x).length = x) ∧
  (∀ (S : OT) (x : Int32), (S.sLength x).place = S.place) ∧
  (∀ (S : OT) (x : Int32), (S.sLength x).behind = S.behind) ∧
  (∀ (S : OT) (x : Int32), (S.sLength x).done = S.done) ∧
  (∀ (S : OT) (x : Int32), (S.sLength x).letter = S.letter) ∧
  (∀ (S : OT) (x : Int32), (S.sLength x).number = S.number) ∧
  (∀ (S : OT) (x y : Int32), (S.sLength x).sLength y = S.sLength y) ∧
  (∀ (S : OT) (x : Int32), (S.sPlace x).text = S.text) ∧
  (∀ (S : OT) (x : Int32), (S.sPlace x).length = S.length) ∧
  (∀ (S : OT) (x : Int32), (S.sPlace x).place = x) ∧
  (∀ (S : OT) (x : Int32), (S.sPlace x).behind = S.behind) ∧
  (∀ (S : OT) (x : Int32), (S.sPlace x).done = S.done) ∧
  (∀ (S : OT) (x : Int32), (S.sPlace x).letter = S.letter) ∧
  (∀ (S : OT) (x : Int32), (S.sPlace x).number = S.number) ∧
  (∀ (S : OT) (x y : Int32), (S.sPlace x).sPlace y = S.sPlace y) ∧
  (∀ (S : OT) (x : Int32), (S.sBehind x).text = S.text) ∧
  (∀ (S : OT) (x : Int32), (S.sBehind x).length = S.length) ∧
  (∀ (S : OT) (x : Int32), (S.sBehind x).place = S.place) ∧
  (∀ (S : OT) (x : Int32), (S.sBehind x).behind = x) ∧
  (∀ (S : OT) (x : Int32), (S.sBehind x).done = S.done) ∧
  (∀ (S : OT) (x : Int32), (S.sBehind x).letter = S.letter) ∧
  (∀ (S : OT) (x : Int32), (S.sBehind x).number = S.number) ∧
  (∀ (S : OT) (x y : Int32), (S.sBehind x).sBehind y = S.sBehind y) ∧
  (∀ (S : OT) (x : Int32), (S.sDone x).text = S.text) ∧
  (∀ (S : OT) (x : Int32), (S.sDone x).length = S.length) ∧
  (∀ (S : OT) (x : Int32), (S.sDone x).place = S.place) ∧
  (∀ (S : OT) (x : Int32), (S.sDone x).behind = S.behind) ∧
  (∀ (S : OT) (x : Int32), (S.sDone x).done = x) ∧
  (∀ (S : OT) (x : Int32), (S.sDone x).letter = S.letter) ∧
  (∀ (S : OT) (x : Int32), (S.sDone x).number = S.number) ∧
  (∀ (S : OT) (x y : Int32), (S.sDone x).sDone y = S.sDone y) ∧
  (∀ (S : OT) (x : Int32), (S.sLetter x).text = S.text) ∧
  (∀ (S : OT) (x : Int32), (S.sLetter x).length = S.length) ∧
  (∀ (S : OT) (x : Int32), (S.sLetter x).place = S.place) ∧
  (∀ (S : OT) (x : Int32), (S.sLetter x).behind = S.behind) ∧
  (∀ (S : OT) (x : Int32), (S.sLetter x).done = S.done) ∧
  (∀ (S : OT) (x : Int32), (S.sLetter x).letter = x) ∧
  (∀ (S : OT) (x : Int32), (S.sLetter x).number = S.number) ∧
  (∀ (S : OT) (x y : Int32), (S.sLetter x).sLetter y = S.sLetter y) ∧
  (∀ (S : OT) (x : Int32), (S.sNumber x).text = S.text) ∧
  (∀ (S : OT) (x : Int32), (S.sNumber x).length = S.length) ∧
  (∀ (S : OT) (x : Int32), (S.sNumber x).place = S.place) ∧
  (∀ (S : OT) (x : Int32), (S.sNumber x).behind = S.behind) ∧
  (∀ (S : OT) (x : Int32), (S.sNumber x).done = S.done) ∧
  (∀ (S : OT) (x : Int32), (S.sNumber x).letter = S.letter) ∧
  (∀ (S : OT) (x : Int32), (S.sNumber x).number = x) ∧
  (∀ (S : OT) (x y : Int32), (S.sNumber x).sNumber y = S.sNumber y) := by
  repeat' apply And.intro
  all_goals (intros; rfl)
theorem OT.ext' {a b : OT} (h0 : a.text = b.text) (h1 : a.length = b.length) (h2 : a.place = b.place) (h3 : a.behind = b.behind) (h4 : a.done = b.done) (h5 : a.letter = b.letter) (h6 : a.number = b.number) : a = b := by
  unfold OT.text OT.length OT.place OT.behind OT.done OT.letter OT.number at *
  exact Prod.ext h0 (Prod.ext h1 (Prod.ext h2 (Prod.ext h3 (Prod.ext h4 (Prod.ext h5 h6)))))
abbrev PT : Type := (Nat → Int32) × (Nat → Int32) × (Nat → Int32) × (Nat → Int32) × (Nat → Int32) × (Nat → Int32) × (Nat → Int32) × (Nat → Int32) × Int32 × Int32
def PT.kinds (S : PT) : (Nat → Int32) := S.1
def PT.shutoffs (S : PT) : (Nat → Int32) := S.2.1
def PT.steeps (S : PT) : (Nat → Int32) := S.2.2.1
def PT.inService (S : PT) : (Nat → Int32) := S.2.2.2.1
def PT.speeds (S : PT) : (Nat → Int32) := S.2.2.2.2.1
def PT.minutes (S : PT) : (Nat → Int32) := S.2.2.2.2.2.1
def PT.since (S : PT) : (Nat → Int32) := S.2.2.2.2.2.2.1
def PT.starts (S : PT) : (Nat → Int32) := S.2.2.2.2.2.2.2.1
def PT.size (S : PT) : Int32 := S.2.2.2.2.2.2.2.2.1
def PT.vrb (S : PT) : Int32 := S.2.2.2.2.2.2.2.2.2
def PT.sKinds (S : PT) (x : (Nat → Int32)) : PT := (x, S.2.1, S.2.2.1, S.2.2.2.1, S.2.2.2.2.1, S.2.2.2.2.2.1, S.2.2.2.2.2.2.1, S.2.2.2.2.2.2.2.1, S.2.2.2.2.2.2.2.2.1, S.2.2.2.2.2.2.2.2.2)
def PT.sShutoffs (S : PT) (x : (Nat → Int32)) : PT := (S.1, x, S.2.2.1, S.2.2.2.1, S.2.2.2.2.1, S.2.2.2.2.2.1, S.2.2.2.2.2.2.1, S.2.2.2.2.2.2.2.1, S.2.2.2.2.2.2.2.2.1, S.2.2.2.2.2.2.2.2.2)
def PT.sSteeps (S : PT) (x : (Nat → Int32)) : PT := (S.1, S.2.1, x, S.2.2.2.1, S.2.2.2.2.1, S.2.2.2.2.2.1, S.2.2.2.2.2.2.1, S.2.2.2.2.2.2.2.1, S.2.2.2.2.2.2.2.2.1, S.2.2.2.2.2.2.2.2.2)
def PT.sInService (S : PT) (x : (Nat → Int32)) : PT := (S.1, S.2.1, S.2.2.1, x, S.2.2.2.2.1, S.2.2.2.2.2.1, S.2.2.2.2.2.2.1, S.2.2.2.2.2.2.2.1, S.2.2.2.2.2.2.2.2.1, S.2.2.2.2.2.2.2.2.2)
def PT.sSpeeds (S : PT) (x : (Nat → Int32)) : PT := (S.1, S.2.1, S.2.2.1, S.2.2.2.1, x, S.2.2.2.2.2.1, S.2.2.2.2.2.2.1, S.2.2.2.2.2.2.2.1, S.2.2.2.2.2.2.2.2.1, S.2.2.2.2.2.2.2.2.2)
def PT.sMinutes (S : PT) (x : (Nat → Int32)) : PT := (S.1, S.2.1, S.2.2.1, S.2.2.2.1, S.2.2.2.2.1, x, S.2.2.2.2.2.2.1, S.2.2.2.2.2.2.2.1, S.2.2.2.2.2.2.2.2.1, S.2.2.2.2.2.2.2.2.2)
def PT.sSince (S : PT) (x : (Nat → Int32)) : PT := (S.1, S.2.1, S.2.2.1, S.2.2.2.1, S.2.2.2.2.1, S.2.2.2.2.2.1, x, S.2.2.2.2.2.2.2.1, S.2.2.2.2.2.2.2.2.1, S.2.2.2.2.2.2.2.2.2)
def PT.sStarts (S : PT) (x : (Nat → Int32)) : PT := (S.1, S.2.1, S.2.2.1, S.2.2.2.1, S.2.2.2.2.1, S.2.2.2.2.2.1, S.2.2.2.2.2.2.1, x, S.2.2.2.2.2.2.2.2.1, S.2.2.2.2.2.2.2.2.2)
def PT.sSize (S : PT) (x : Int32) : PT := (S.1, S.2.1, S.2.2.1, S.2.2.2.1, S.2.2.2.2.1, S.2.2.2.2.2.1, S.2.2.2.2.2.2.1, S.2.2.2.2.2.2.2.1, x, S.2.2.2.2.2.2.2.2.2)
def PT.sVrb (S : PT) (x : Int32) : PT := (S.1, S.2.1, S.2.2.1, S.2.2.2.1, S.2.2.2.2.1, S.2.2.2.2.2.1, S.2.2.2.2.2.2.1, S.2.2.2.2.2.2.2.1, S.2.2.2.2.2.2.2.2.1, x)
set_option maxRecDepth 100000 in
theorem PT_gs : (∀ (S : PT) (x : (Nat → Int32)), (S.sKinds x).kinds = x) ∧
  (∀ (S : PT) (x : (Nat → Int32)), (S.sKinds x).shutoffs = S.shutoffs) ∧
  (∀ (S : PT) (x : (Nat → Int32)), (S.sKinds x).steeps = S.steeps) ∧
  (∀ (S : PT) (x : (Nat → Int32)), (S.sKinds x).inService = S.inService) ∧
  (∀ (S : PT) (x : (Nat → Int32)), (S.sKinds x).speeds = S.speeds) ∧
  (∀ (S : PT) (x : (Nat → Int32)), (S.sKinds x).minutes = S.minutes) ∧
  (∀ (S : PT) (x : (Nat → Int32)), (S.sKinds x).since = S.since) ∧
  (∀ (S : PT) (x : (Nat → Int32)), (S.sKinds x).starts = S.starts) ∧
  (∀ (S : PT) (x : (Nat → Int32)), (S.sKinds x).size = S.size) ∧
  (∀ (S : PT) (x : (Nat → Int32)), (S.sKinds x).vrb = S.vrb) ∧
  (∀ (S : PT) (x y : (Nat → Int32)), (S.sKinds x).sKinds y = S.sKinds y) ∧
  (∀ (S : PT) (x : (Nat → Int32)), (S.sShutoffs x).kinds = S.kinds) ∧
  (∀ (S : PT) (x : (Nat → Int32)), (S.sShutoffs x).shutoffs = x) ∧
  (∀ (S : PT) (x : (Nat → Int32)), (S.sShutoffs x).steeps = S.steeps) ∧
  (∀ (S : PT) (x : (Nat → Int32)), (S.sShutoffs x).inService = S.inService) ∧
  (∀ (S : PT) (x : (Nat → Int32)), (S.sShutoffs x).speeds = S.speeds) ∧
  (∀ (S : PT) (x : (Nat → Int32)), (S.sShutoffs x).minutes = S.minutes) ∧
  (∀ (S : PT) (x : (Nat → Int32)), (S.sShutoffs x).since = S.since) ∧
  (∀ (S : PT) (x : (Nat → Int32)), (S.sShutoffs x).starts = S.starts) ∧
  (∀ (S : PT) (x : (Nat → Int32)), (S.sShutoffs x).size = S.size) ∧
  (∀ (S : PT) (x : (Nat → Int32)), (S.sShutoffs x).vrb = S.vrb) ∧
  (∀ (S : PT) (x y : (Nat → Int32)), (S.sShutoffs x).sShutoffs y = S.sShutoffs y) ∧
  (∀ (S : PT) (x : (Nat → Int32)), (S.sSteeps x).kinds = S.kinds) ∧
  (∀ (S : PT) (x : (Nat → Int32)), (S.sSteeps x).shutoffs = S.shutoffs) ∧
  (∀ (S : PT) (x : (Nat → Int32)), (S.sSteeps x).steeps = x) ∧
  (∀ (S : PT) (x : (Nat → Int32)), (S.sSteeps x).inService = S.inService) ∧
  (∀ (S : PT) (x : (Nat → Int32)), (S.sSteeps x).speeds = S.speeds) ∧
  (∀ (S : PT) (x : (Nat → Int32)), (S.sSteeps x).minutes = S.minutes) ∧
  (∀ (S : PT) (x : (Nat → Int32)), (S.sSteeps x).since = S.since) ∧
  (∀ (S : PT) (x : (Nat → Int32)), (S.sSteeps x).starts = S.starts) ∧
  (∀ (S : PT) (x : (Nat → Int32)), (S.sSteeps x).size = S.size) ∧
  (∀ (S : PT) (x : (Nat → Int32)), (S.sSteeps x).vrb = S.vrb) ∧
  (∀ (S : PT) (x y : (Nat → Int32)), (S.sSteeps x).sSteeps y = S.sSteeps y) ∧
  (∀ (S : PT) (x : (Nat → Int32)), (S.sInService x).kinds = S.kinds) ∧
  (∀ (S : PT) (x : (Nat → Int32)), (S.sInService x).shutoffs = S.shutoffs) ∧
  (∀ (S : PT) (x : (Nat → Int32)), (S.sInService x).steeps = S.steeps) ∧
  (∀ (S : PT) (x : (Nat → Int32)), (S.sInService x).inService = x) ∧
  (∀ (S : PT) (x : (Nat → Int32)), (S.sInService x).speeds = S.speeds) ∧
  (∀ (S : PT) (x : (Nat → Int32)), (S.sInService x).minutes = S.minutes) ∧
  (∀ (S : PT) (x : (Nat → Int32)), (S.sInService x).since = S.since) ∧
  (∀ (S : PT) (x : (Nat → Int32)), (S.sInService x).starts = S.starts) ∧
  (∀ (S : PT) (x : (Nat → Int32)), (S.sInService x).size = S.size) ∧
  (∀ (S : PT) (x : (Nat → Int32)), (S.sInService x).vrb = S.vrb) ∧
  (∀ (S : PT) (x y : (Nat → Int32)), (S.sInService x).sInService y = S.sInService y) ∧
  (∀ (S : PT) (x : (Nat → Int32)), (S.sSpeeds x).kinds = S.kinds) ∧
  (∀ (S : PT) (x : (Nat → Int32)), (S.sSpeeds x).shutoffs = S.shutoffs) ∧
  (∀ (S : PT) (x : (Nat → Int32)), (S.sSpeeds x).steeps = S.steeps) ∧
  (∀ (S : PT) (x : (Nat → Int32)), (S.sSpeeds x).inService = S.inService) ∧
  (∀ (S : PT) (x : (Nat → Int32)), (S.sSpeeds x).speeds = x) ∧
  (∀ (S : PT) (x : (Nat → Int32)), (S.sSpeeds x).minutes = S.minutes) ∧
  (∀ (S : PT) (x : (Nat → Int32)), (S.sSpeeds x).since = S.since) ∧
  (∀ (S : PT) (x : (Nat → Int32)), (S.sSpeeds x).starts = S.starts) ∧
  (∀ (S : PT) (x : (Nat → Int32)), (S.sSpeeds x).size = S.size) ∧
  (∀ (S : PT) (x : (Nat → Int32)), (S.sSpeeds x).vrb = S.vrb) ∧
  (∀ (S : PT) (x y : (Nat → Int32)), (S.sSpeeds x).sSpeeds y = S.sSpeeds y) ∧
  (∀ (S : PT) (x : (Nat → Int32)), (S.sMinutes x).kinds = S.kinds) ∧
  (∀ (S : PT) (x : (Nat → Int32)), (S.sMinutes x).shutoffs = S.shutoffs) ∧
  (∀ (S : PT) (x : (Nat → Int32)), (S.sMinutes x).steeps = S.steeps) ∧
  (∀ (S : PT) (x : (Nat → Int32)), (S.sMinutes x).inService = S.inService) ∧
  (∀ (S : PT) (x : (Nat → Int32)), (S.sMinutes x).speeds = S.speeds) ∧
  (∀ (S : PT) (x : (Nat → Int32)), (S.sMinutes x).minutes = x) ∧
  (∀ (S : PT) (x : (Nat → Int32)), (S.sMinutes x).since = S.since) ∧
  (∀ (S : PT) (x : (Nat → Int32)), (S.sMinutes x).starts = S.starts) ∧
  (∀ (S : PT) (x : (Nat → Int32)), (S.sMinutes x).size = S.size) ∧
  (∀ (S : PT) (x : (Nat → Int32)), (S.sMinutes x).vrb = S.vrb) ∧
  (∀ (S : PT) (x y : (Nat → Int32)), (S.sMinutes x).sMinutes y = S.sMinutes y) ∧
  (∀ (S : PT) (x : (Nat → Int32)), (S.sSince x).kinds = S.kinds) ∧
  (∀ (S : PT) (x : (Nat → Int32)), (S.sSince x).shutoffs = S.shutoffs) ∧
  (∀ (S : PT) (x : (Nat → Int32)), (S.sSince x).steeps = S.steeps) ∧
  (∀ (S : PT) (x : (Nat → Int32)), (S.sSince x).inService = S.inService) ∧
  (∀ (S : PT) (x : (Nat → Int32)), (S.sSince x).speeds = S.speeds) ∧
  (∀ (S : PT) (x : (Nat → Int32)), (S.sSince x).minutes = S.minutes) ∧
  (∀ (S : PT) (x : (Nat → Int32)), (S.sSince x).since = x) ∧
  (∀ (S : PT) (x : (Nat → Int32)), (S.sSince x).starts = S.starts) ∧
  (∀ (S : PT) (x : (Nat → Int32)), (S.sSince x).size = S.size) ∧
  (∀ (S : PT) (x : (Nat → Int32)), (S.sSince x).vrb = S.vrb) ∧
  (∀ (S : PT) (x y : (Nat → Int32)), (S.sSince x).sSince y = S.sSince y) ∧
  (∀ (S : PT) (x : (Nat → Int32)), (S.sStarts x).kinds = S.kinds) ∧
  (∀ (S : PT) (x : (Nat → Int32)), (S.sStarts x).shutoffs = S.shutoffs) ∧
  (∀ (S : PT) (x : (Nat → Int32)), (S.sStarts x).steeps = S.steeps) ∧
  (∀ (S : PT) (x : (Nat → Int32)), (S.sStarts x).inService = S.inService) ∧
  (∀ (S : PT) (x : (Nat → Int32)), (S.sStarts x).speeds = S.speeds) ∧
  (∀ (S : PT) (x : (Nat → Int32)), (S.sStarts x).minutes = S.minutes) ∧
  (∀ (S : PT) (x : (Nat → Int32)), (S.sStarts x).since = S.since) ∧
  (∀ (S : PT) (x : (Nat → Int32)), (S.sStarts x).starts = x) ∧
  (∀ (S : PT) (x : (Nat → Int32)), (S.sStarts x).size = S.size) ∧
  (∀ (S : PT) (x : (Nat → Int32)), (S.sStarts x).vrb = S.vrb) ∧
  (∀ (S : PT) (x y : (Nat → Int32)), (S.sStarts x).sStarts y = S.sStarts y) ∧
  (∀ (S : PT) (x : Int32), (S.sSize x).kinds = S.kinds) ∧
  (∀ (S : PT) (x : Int32), (S.sSize x).shutoffs = S.shutoffs) ∧
  (∀ (S : PT) (x : Int32), (S.sSize x).steeps = S.steeps) ∧
  (∀ (S : PT) (x : Int32), (S.sSize x).inService = S.inService) ∧
  (∀ (S : PT) (x : Int32), (S.sSize x).speeds = S.speeds) ∧
  (∀ (S : PT) (x : Int32), (S.sSize x).minutes = S.minutes) ∧
  (∀ (S : PT) (x : Int32), (S.sSize x).since = S.since) ∧
  (∀ (S : PT) (x : Int32), (S.sSize x).starts = S.starts) ∧
  (∀ (S : PT) (x : Int32), (S.sSize x).size = x) ∧
  (∀ (S : PT) (x : Int32), (S.sSize x).vrb = S.vrb) ∧
  (∀ (S : PT) (x y : Int32), (S.sSize x).sSize y = S.sSize y) ∧
  (∀ (S : PT) (x : Int32), (S.sVrb x).kinds = S.kinds) ∧
  (∀ (S : PT) (x : Int32), (S.sVrb x).shutoffs = S.shutoffs) ∧
  (∀ (S : PT) (x : Int32), (S.sVrb x).steeps = S.steeps) ∧
  (∀ (S : PT) (x : Int32), (S.sVrb x).inService = S.inService) ∧
  (∀ (S : PT) (x : Int32), (S.sVrb x).speeds = S.speeds) ∧
  (∀ (S : PT) (x : Int32), (S.sVrb x).minutes = S.minutes) ∧
  (∀ (S : PT) (x : Int32), (S.sVrb x).since = S.since) ∧
  (∀ (S : PT) (x : Int32), (S.sVrb x).starts = S.starts) ∧
  (∀ (S : PT) (x : Int32), (S.sVrb x).size = S.size) ∧
  (∀ (S : PT) (x : Int32), (S.sVrb x).vrb = x) ∧
  (∀ (S : PT) (x y : Int32), (S.sVrb x).sVrb y = S.sVrb y) := by
  repeat' apply And.intro
  all_goals (intros; rfl)
theorem PT.ext' {a b : PT} (h0 : a.kinds = b.kinds) (h1 : a.shutoffs = b.shutoffs) (h2 : a.steeps = b.steeps) (h3 : a.inService = b.inService) (h4 : a.speeds = b.speeds) (h5 : a.minutes = b.minutes) (h6 : a.since = b.since) (h7 : a.starts = b.starts) (h8 : a.size = b.size) (h9 : a.vrb = b.vrb) : a = b := by
  unfold PT.kinds PT.shutoffs PT.steeps PT.inService PT.speeds PT.minutes PT.since PT.starts PT.size PT.vrb at *
  exact Prod.ext h0 (Prod.ext h1 (Prod.ext h2 (Prod.ext h3 (Prod.ext h4 (Prod.ext h5 (Prod.ext h6 (Prod.ext h7 (Prod.ext h8 h9))))))))
abbrev ZT : Type := (Nat → Int32) × (Nat → Int32) × Int32 × (Nat → Int32) × (Nat → Int32) × (Nat → Int32) × Int32
def ZT.demands (S : ZT) : (Nat → Int32) := S.1
def ZT.isOpen (S : ZT) : (Nat → Int32) := S.2.1
def ZT.size (S : ZT) : Int32 := S.2.2.1
def ZT.pzones (S : ZT) : (Nat → Int32) := S.2.2.2.1
def ZT.opening (S : ZT) : (Nat → Int32) := S.2.2.2.2.1
def ZT.closing (S : ZT) : (Nat → Int32) := S.2.2.2.2.2.1
def ZT.programmes (S : ZT) : Int32 := S.2.2.2.2.2.2
def ZT.sDemands (S : ZT) (x : (Nat → Int32)) : ZT := (x, S.2.1, S.2.2.1, S.2.2.2.1, S.2.2.2.2.1, S.2.2.2.2.2.1, S.2.2.2.2.2.2)
def ZT.sIsOpen (S : ZT) (x : (Nat → Int32)) : ZT := (S.1, x, S.2.2.1, S.2.2.2.1, S.2.2.2.2.1, S.2.2.2.2.2.1, S.2.2.2.2.2.2)
def ZT.sSize (S : ZT) (x : Int32) : ZT := (S.1, S.2.1, x, S.2.2.2.1, S.2.2.2.2.1, S.2.2.2.2.2.1, S.2.2.2.2.2.2)
def ZT.sPzones (S : ZT) (x : (Nat → Int32)) : ZT := (S.1, S.2.1, S.2.2.1, x, S.2.2.2.2.1, S.2.2.2.2.2.1, S.2.2.2.2.2.2)
def ZT.sOpening (S : ZT) (x : (Nat → Int32)) : ZT := (S.1, S.2.1, S.2.2.1, S.2.2.2.1, x, S.2.2.2.2.2.1, S.2.2.2.2.2.2)
def ZT.sClosing (S : ZT) (x : (Nat → Int32)) : ZT := (S.1, S.2.1, S.2.2.1, S.2.2.2.1, S.2.2.2.2.1, x, S.2.2.2.2.2.2)
def ZT.sProgrammes (S : ZT) (x : Int32) : ZT := (S.1, S.2.1, S.2.2.1, S.2.2.2.1, S.2.2.2.2.1, S.2.2.2.2.2.1, x)
set_option maxRecDepth 100000 in
theorem ZT_gs : (∀ (S : ZT) (x : (Nat → Int32)), (S.sDemands x).demands = x) ∧
  (∀ (S : ZT) (x : (Nat → Int32)), (S.sDemands x).isOpen = S.isOpen) ∧
  (∀ (S : ZT) (x : (Nat → Int32)), (S.sDemands x).size = S.size) ∧
  (∀ (S : ZT) (x : (Nat → Int32)), (S.sDemands x).pzones = S.pzones) ∧
  (∀ (S : ZT) (x : (Nat → Int32)), (S.sDemands x).opening = S.opening) ∧
  (∀ (S : ZT) (x : (Nat → Int32)), (S.sDemands x).closing = S.closing) ∧
  (∀ (S : ZT) (x : (Nat → Int32)), (S.sDemands x).programmes = S.programmes) ∧
  (∀ (S : ZT) (x y : (Nat → Int32)), (S.sDemands x).sDemands y = S.sDemands y) ∧
  (∀ (S : ZT) (x : (Nat → Int32)), (S.sIsOpen x).demands = S.demands) ∧
  (∀ (S : ZT) (x : (Nat → Int32)), (S.sIsOpen x).isOpen = x) ∧
  (∀ (S : ZT) (x : (Nat → Int32)), (S.sIsOpen x).size = S.size) ∧
  (∀ (S : ZT) (x : (Nat → Int32)), (S.sIsOpen x).pzones = S.pzones) ∧
  (∀ (S : ZT) (x : (Nat → Int32)), (S.sIsOpen x).opening = S.opening) ∧
  (∀ (S : ZT) (x : (Nat → Int32)), (S.sIsOpen x).closing = S.closing) ∧
  (∀ (S : ZT) (x : (Nat → Int32)), (S.sIsOpen x).programmes = S.programmes) ∧
  (∀ (S : ZT) (x y : (Nat → Int32)), (S.sIsOpen x).sIsOpen y = S.sIsOpen y) ∧
  (∀ (S : ZT) (x : Int32), (S.sSize x).demands = S.demands) ∧
  (∀ (S : ZT) (x : Int32), (S.sSize x).isOpen = S.isOpen) ∧
  (∀ (S : ZT) (x : Int32), (S.sSize x).size = x) ∧
  (∀ (S : ZT) (x : Int32), (S.sSize x).pzones = S.pzones) ∧
  (∀ (S : ZT) (x : Int32), (S.sSize x).opening = S.opening) ∧
  (∀ (S : ZT) (x : Int32), (S.sSize x).closing = S.closing) ∧
  (∀ (S : ZT) (x : Int32), (S.sSize x).programmes = S.programmes) ∧
  (∀ (S : ZT) (x y : Int32), (S.sSize x).sSize y = S.sSize y) ∧
  (∀ (S : ZT) (x : (Nat → Int32)), (S.sPzones x).demands = S.demands) ∧
  (∀ (S : ZT) (x : (Nat → Int32)), (S.sPzones x).isOpen = S.isOpen) ∧
  (∀ (S : ZT) (x : (Nat → Int32)), (S.sPzones x).size = S.size) ∧
  (∀ (S : ZT) (x : (Nat → Int32)), (S.sPzones x).pzones = x) ∧
  (∀ (S : ZT) (x : (Nat → Int32)), (S.sPzones x).opening = S.opening) ∧
  (∀ (S : ZT) (x : (Nat → Int32)), (S.sPzones x).closing = S.closing) ∧
  (∀ (S : ZT) (x : (Nat → Int32)), (S.sPzones x).programmes = S.programmes) ∧
  (∀ (S : ZT) (x y : (Nat → Int32)), (S.sPzones x).sPzones y = S.sPzones y) ∧
  (∀ (S : ZT) (x : (Nat → Int32)), (S.sOpening x).demands = S.demands) ∧
  (∀ (S : ZT) (x : (Nat → Int32)), (S.sOpening x).isOpen = S.isOpen) ∧
  (∀ (S : ZT) (x : (Nat → Int32)), (S.sOpening x).size = S.size) ∧
  (∀ (S : ZT) (x : (Nat → Int32)), (S.sOpening x).pzones = S.pzones) ∧
  (∀ (S : ZT) (x : (Nat → Int32)), (S.sOpening x).opening = x) ∧
  (∀ (S : ZT) (x : (Nat → Int32)), (S.sOpening x).closing = S.closing) ∧
  (∀ (S : ZT) (x : (Nat → Int32)), (S.sOpening x).programmes = S.programmes) ∧
  (∀ (S : ZT) (x y : (Nat → Int32)), (S.sOpening x).sOpening y = S.sOpening y) ∧
  (∀ (S : ZT) (x : (Nat → Int32)), (S.sClosing x).demands = S.demands) ∧
  (∀ (S : ZT) (x : (Nat → Int32)), (S.sClosing x).isOpen = S.isOpen) ∧
  (∀ (S : ZT) (x : (Nat → Int32)), (S.sClosing x).size = S.size) ∧
  (∀ (S : ZT) (x : (Nat → Int32)), (S.sClosing x).pzones = S.pzones) ∧
  (∀ (S : ZT) (x : (Nat → Int32)), (S.sClosing x).opening = S.opening) ∧
  (∀ (S : ZT) (x : (Nat → Int32)), (S.sClosing x).closing = x) ∧
  (∀ (S : ZT) (x : (Nat → Int32)), (S.sClosing x).programmes = S.programmes) ∧
  (∀ (S : ZT) (x y : (Nat → Int32)), (S.sClosing x).sClosing y = S.sClosing y) ∧
  (∀ (S : ZT) (x : Int32), (S.sProgrammes x).demands = S.demands) ∧
  (∀ (S : ZT) (x : Int32), (S.sProgrammes x).isOpen = S.isOpen) ∧
  (∀ (S : ZT) (x : Int32), (S.sProgrammes x).size = S.size) ∧
  (∀ (S : ZT) (x : Int32), (S.sProgrammes x).pzones = S.pzones) ∧
  (∀ (S : ZT) (x : Int32), (S.sProgrammes x).opening = S.opening) ∧
  (∀ (S : ZT) (x : Int32), (S.sProgrammes x).closing = S.closing) ∧
  (∀ (S : ZT) (x : Int32), (S.sProgrammes x).programmes = x) ∧
  (∀ (S : ZT) (x y : Int32), (S.sProgrammes x).sProgrammes y = S.sProgrammes y) := by
  repeat' apply And.intro
  all_goals (intros; rfl)
theorem ZT.ext' {a b : ZT} (h0 : a.demands = b.demands) (h1 : a.isOpen = b.isOpen) (h2 : a.size = b.size) (h3 : a.pzones = b.pzones) (h4 : a.opening = b.opening) (h5 : a.closing = b.closing) (h6 : a.programmes = b.programmes) : a = b := by
  unfold ZT.demands ZT.isOpen ZT.size ZT.pzones ZT.opening ZT.closing ZT.programmes at *
  exact Prod.ext h0 (Prod.ext h1 (Prod.ext h2 (Prod.ext h3 (Prod.ext h4 (Prod.ext h5 h6)))))
abbrev ST : Type := (Nat → Int32) × PT × ZT × NT × ET × Int32 × Int32 × Int32 × Int32 × Int32 × Int32 × Int32 × Int32 × Int32 × Int32 × Int32 × Int32
def ST.settings (S : ST) : (Nat → Int32) := S.1
def ST.P (S : ST) : PT := S.2.1
def ST.Z (S : ST) : ZT := S.2.2.1
def ST.N (S : ST) : NT := S.2.2.2.1
def ST.E (S : ST) : ET := S.2.2.2.2.1
def ST.time (S : ST) : Int32 := S.2.2.2.2.2.1
def ST.pressure (S : ST) : Int32 := S.2.2.2.2.2.2.1
def ST.level (S : ST) : Int32 := S.2.2.2.2.2.2.2.1
def ST.leak (S : ST) : Int32 := S.2.2.2.2.2.2.2.2.1
def ST.supply (S : ST) : Int32 := S.2.2.2.2.2.2.2.2.2.1
def ST.allSupplied (S : ST) : Int32 := S.2.2.2.2.2.2.2.2.2.2.1
def ST.dry (S : ST) : Int32 := S.2.2.2.2.2.2.2.2.2.2.2.1
def ST.dryMinutes (S : ST) : Int32 := S.2.2.2.2.2.2.2.2.2.2.2.2.1
def ST.trips (S : ST) : Int32 := S.2.2.2.2.2.2.2.2.2.2.2.2.2.1
def ST.toStart (S : ST) : Int32 := S.2.2.2.2.2.2.2.2.2.2.2.2.2.2.1
def ST.toStop (S : ST) : Int32 := S.2.2.2.2.2.2.2.2.2.2.2.2.2.2.2.1
def ST.toSleep (S : ST) : Int32 := S.2.2.2.2.2.2.2.2.2.2.2.2.2.2.2.2
def ST.sSettings (S : ST) (x : (Nat → Int32)) : ST := (x, S.2.1, S.2.2.1, S.2.2.2.1, S.2.2.2.2.1, S.2.2.2.2.2.1, S.2.2.2.2.2.2.1, S.2.2.2.2.2.2.2.1, S.2.2.2.2.2.2.2.2.1, S.2.2.2.2.2.2.2.2.2.1, S.2.2.2.2.2.2.2.2.2.2.1, S.2.2.2.2.2.2.2.2.2.2.2.1, S.2.2.2.2.2.2.2.2.2.2.2.2.1, S.2.2.2.2.2.2.2.2.2.2.2.2.2.1, S.2.2.2.2.2.2.2.2.2.2.2.2.2.2.1, S.2.2.2.2.2.2.2.2.2.2.2.2.2.2.2.1, S.2.2.2.2.2.2.2.2.2.2.2.2.2.2.2.2)
def ST.sP (S : ST) (x : PT) : ST := (S.1, x, S.2.2.1, S.2.2.2.1, S.2.2.2.2.1, S.2.2.2.2.2.1, S.2.2.2.2.2.2.1, S.2.2.2.2.2.2.2.1, S.2.2.2.2.2.2.2.2.1, S.2.2.2.2.2.2.2.2.2.1, S.2.2.2.2.2.2.2.2.2.2.1, S.2.2.2.2.2.2.2.2.2.2.2.1, S.2.2.2.2.2.2.2.2.2.2.2.2.1, S.2.2.2.2.2.2.2.2.2.2.2.2.2.1, S.2.2.2.2.2.2.2.2.2.2.2.2.2.2.1, S.2.2.2.2.2.2.2.2.2.2.2.2.2.2.2.1, S.2.2.2.2.2.2.2.2.2.2.2.2.2.2.2.2)
def ST.sZ (S : ST) (x : ZT) : ST := (S.1, S.2.1, x, S.2.2.2.1, S.2.2.2.2.1, S.2.2.2.2.2.1, S.2.2.2.2.2.2.1, S.2.2.2.2.2.2.2.1, S.2.2.2.2.2.2.2.2.1, S.2.2.2.2.2.2.2.2.2.1, S.2.2.2.2.2.2.2.2.2.2.1, S.2.2.2.2.2.2.2.2.2.2.2.1, S.2.2.2.2.2.2.2.2.2.2.2.2.1, S.2.2.2.2.2.2.2.2.2.2.2.2.2.1, S.2.2.2.2.2.2.2.2.2.2.2.2.2.2.1, S.2.2.2.2.2.2.2.2.2.2.2.2.2.2.2.1, S.2.2.2.2.2.2.2.2.2.2.2.2.2.2.2.2)
def ST.sN (S : ST) (x : NT) : ST := (S.1, S.2.1, S.2.2.1, x, S.2.2.2.2.1, S.2.2.2.2.2.1, S.2.2.2.2.2.2.1, S.2.2.2.2.2.2.2.1, S.2.2.2.2.2.2.2.2.1, S.2.2.2.2.2.2.2.2.2.1, S.2.2.2.2.2.2.2.2.2.2.1, S.2.2.2.2.2.2.2.2.2.2.2.1, S.2.2.2.2.2.2.2.2.2.2.2.2.1, S.2.2.2.2.2.2.2.2.2.2.2.2.2.1, S.2.2.2.2.2.2.2.2.2.2.2.2.2.2.1, S.2.2.2.2.2.2.2.2.2.2.2.2.2.2.2.1, S.2.2.2.2.2.2.2.2.2.2.2.2.2.2.2.2)
def ST.sE (S : ST) (x : ET) : ST := (S.1, S.2.1, S.2.2.1, S.2.2.2.1, x, S.2.2.2.2.2.1, S.2.2.2.2.2.2.1, S.2.2.2.2.2.2.2.1, S.2.2.2.2.2.2.2.2.1, S.2.2.2.2.2.2.2.2.2.1, S.2.2.2.2.2.2.2.2.2.2.1, S.2.2.2.2.2.2.2.2.2.2.2.1, S.2.2.2.2.2.2.2.2.2.2.2.2.1, S.2.2.2.2.2.2.2.2.2.2.2.2.2.1, S.2.2.2.2.2.2.2.2.2.2.2.2.2.2.1, S.2.2.2.2.2.2.2.2.2.2.2.2.2.2.2.1, S.2.2.2.2.2.2.2.2.2.2.2.2.2.2.2.2)
def ST.sTime (S : ST) (x : Int32) : ST := (S.1, S.2.1, S.2.2.1, S.2.2.2.1, S.2.2.2.2.1, x, S.2.2.2.2.2.2.1, S.2.2.2.2.2.2.2.1, S.2.2.2.2.2.2.2.2.1, S.2.2.2.2.2.2.2.2.2.1, S.2.2.2.2.2.2.2.2.2.2.1, S.2.2.2.2.2.2.2.2.2.2.2.1, S.2.2.2.2.2.2.2.2.2.2.2.2.1, S.2.2.2.2.2.2.2.2.2.2.2.2.2.1, S.2.2.2.2.2.2.2.2.2.2.2.2.2.2.1, S.2.2.2.2.2.2.2.2.2.2.2.2.2.2.2.1, S.2.2.2.2.2.2.2.2.2.2.2.2.2.2.2.2)
def ST.sPressure (S : ST) (x : Int32) : ST := (S.1, S.2.1, S.2.2.1, S.2.2.2.1, S.2.2.2.2.1, S.2.2.2.2.2.1, x, S.2.2.2.2.2.2.2.1, S.2.2.2.2.2.2.2.2.1, S.2.2.2.2.2.2.2.2.2.1, S.2.2.2.2.2.2.2.2.2.2.1, S.2.2.2.2.2.2.2.2.2.2.2.1, S.2.2.2.2.2.2.2.2.2.2.2.2.1, S.2.2.2.2.2.2.2.2.2.2.2.2.2.1, S.2.2.2.2.2.2.2.2.2.2.2.2.2.2.1, S.2.2.2.2.2.2.2.2.2.2.2.2.2.2.2.1, S.2.2.2.2.2.2.2.2.2.2.2.2.2.2.2.2)
def ST.sLevel (S : ST) (x : Int32) : ST := (S.1, S.2.1, S.2.2.1, S.2.2.2.1, S.2.2.2.2.1, S.2.2.2.2.2.1, S.2.2.2.2.2.2.1, x, S.2.2.2.2.2.2.2.2.1, S.2.2.2.2.2.2.2.2.2.1, S.2.2.2.2.2.2.2.2.2.2.1, S.2.2.2.2.2.2.2.2.2.2.2.1, S.2.2.2.2.2.2.2.2.2.2.2.2.1, S.2.2.2.2.2.2.2.2.2.2.2.2.2.1, S.2.2.2.2.2.2.2.2.2.2.2.2.2.2.1, S.2.2.2.2.2.2.2.2.2.2.2.2.2.2.2.1, S.2.2.2.2.2.2.2.2.2.2.2.2.2.2.2.2)
def ST.sLeak (S : ST) (x : Int32) : ST := (S.1, S.2.1, S.2.2.1, S.2.2.2.1, S.2.2.2.2.1, S.2.2.2.2.2.1, S.2.2.2.2.2.2.1, S.2.2.2.2.2.2.2.1, x, S.2.2.2.2.2.2.2.2.2.1, S.2.2.2.2.2.2.2.2.2.2.1, S.2.2.2.2.2.2.2.2.2.2.2.1, S.2.2.2.2.2.2.2.2.2.2.2.2.1, S.2.2.2.2.2.2.2.2.2.2.2.2.2.1, S.2.2.2.2.2.2.2.2.2.2.2.2.2.2.1, S.2.2.2.2.2.2.2.2.2.2.2.2.2.2.2.1, S.2.2.2.2.2.2.2.2.2.2.2.2.2.2.2.2)
def ST.sSupply (S : ST) (x : Int32) : ST := (S.1, S.2.1, S.2.2.1, S.2.2.2.1, S.2.2.2.2.1, S.2.2.2.2.2.1, S.2.2.2.2.2.2.1, S.2.2.2.2.2.2.2.1, S.2.2.2.2.2.2.2.2.1, x, S.2.2.2.2.2.2.2.2.2.2.1, S.2.2.2.2.2.2.2.2.2.2.2.1, S.2.2.2.2.2.2.2.2.2.2.2.2.1, S.2.2.2.2.2.2.2.2.2.2.2.2.2.1, S.2.2.2.2.2.2.2.2.2.2.2.2.2.2.1, S.2.2.2.2.2.2.2.2.2.2.2.2.2.2.2.1, S.2.2.2.2.2.2.2.2.2.2.2.2.2.2.2.2)
def ST.sAllSupplied (S : ST) (x : Int32) : ST := (S.1, S.2.1, S.2.2.1, S.2.2.2.1, S.2.2.2.2.1, S.2.2.2.2.2.1, S.2.2.2.2.2.2.1, S.2.2.2.2.2.2.2.1, S.2.2.2.2.2.2.2.2.1, S.2.2.2.2.2.2.2.2.2.1, x, S.2.2.2.2.2.2.2.2.2.2.2.1, S.2.2.2.2.2.2.2.2.2.2.2.2.1, S.2.2.2.2.2.2.2.2.2.2.2.2.2.1, S.2.2.2.2.2.2.2.2.2.2.2.2.2.2.1, S.2.2.2.2.2.2.2.2.2.2.2.2.2.2.2.1, S.2.2.2.2.2.2.2.2.2.2.2.2.2.2.2.2)
def ST.sDry (S : ST) (x : Int32) : ST := (S.1, S.2.1, S.2.2.1, S.2.2.2.1, S.2.2.2.2.1, S.2.2.2.2.2.1, S.2.2.2.2.2.2.1, S.2.2.2.2.2.2.2.1, S.2.2.2.2.2.2.2.2.1, S.2.2.2.2.2.2.2.2.2.1, S.2.2.2.2.2.2.2.2.2.2.1, x, S.2.2.2.2.2.2.2.2.2.2.2.2.1, S.2.2.2.2.2.2.2.2.2.2.2.2.2.1, S.2.2.2.2.2.2.2.2.2.2.2.2.2.2.1, S.2.2.2.2.2.2.2.2.2.2.2.2.2.2.2.1, S.2.2.2.2.2.2.2.2.2.2.2.2.2.2.2.2)
def ST.sDryMinutes (S : ST) (x : Int32) : ST := (S.1, S.2.1, S.2.2.1, S.2.2.2.1, S.2.2.2.2.1, S.2.2.2.2.2.1, S.2.2.2.2.2.2.1, S.2.2.2.2.2.2.2.1, S.2.2.2.2.2.2.2.2.1, S.2.2.2.2.2.2.2.2.2.1, S.2.2.2.2.2.2.2.2.2.2.1, S.2.2.2.2.2.2.2.2.2.2.2.1, x, S.2.2.2.2.2.2.2.2.2.2.2.2.2.1, S.2.2.2.2.2.2.2.2.2.2.2.2.2.2.1, S.2.2.2.2.2.2.2.2.2.2.2.2.2.2.2.1, S.2.2.2.2.2.2.2.2.2.2.2.2.2.2.2.2)
def ST.sTrips (S : ST) (x : Int32) : ST := (S.1, S.2.1, S.2.2.1, S.2.2.2.1, S.2.2.2.2.1, S.2.2.2.2.2.1, S.2.2.2.2.2.2.1, S.2.2.2.2.2.2.2.1, S.2.2.2.2.2.2.2.2.1, S.2.2.2.2.2.2.2.2.2.1, S.2.2.2.2.2.2.2.2.2.2.1, S.2.2.2.2.2.2.2.2.2.2.2.1, S.2.2.2.2.2.2.2.2.2.2.2.2.1, x, S.2.2.2.2.2.2.2.2.2.2.2.2.2.2.1, S.2.2.2.2.2.2.2.2.2.2.2.2.2.2.2.1, S.2.2.2.2.2.2.2.2.2.2.2.2.2.2.2.2)
def ST.sToStart (S : ST) (x : Int32) : ST := (S.1, S.2.1, S.2.2.1, S.2.2.2.1, S.2.2.2.2.1, S.2.2.2.2.2.1, S.2.2.2.2.2.2.1, S.2.2.2.2.2.2.2.1, S.2.2.2.2.2.2.2.2.1, S.2.2.2.2.2.2.2.2.2.1, S.2.2.2.2.2.2.2.2.2.2.1, S.2.2.2.2.2.2.2.2.2.2.2.1, S.2.2.2.2.2.2.2.2.2.2.2.2.1, S.2.2.2.2.2.2.2.2.2.2.2.2.2.1, x, S.2.2.2.2.2.2.2.2.2.2.2.2.2.2.2.1, S.2.2.2.2.2.2.2.2.2.2.2.2.2.2.2.2)
def ST.sToStop (S : ST) (x : Int32) : ST := (S.1, S.2.1, S.2.2.1, S.2.2.2.1, S.2.2.2.2.1, S.2.2.2.2.2.1, S.2.2.2.2.2.2.1, S.2.2.2.2.2.2.2.1, S.2.2.2.2.2.2.2.2.1, S.2.2.2.2.2.2.2.2.2.1, S.2.2.2.2.2.2.2.2.2.2.1, S.2.2.2.2.2.2.2.2.2.2.2.1, S.2.2.2.2.2.2.2.2.2.2.2.2.1, S.2.2.2.2.2.2.2.2.2.2.2.2.2.1, S.2.2.2.2.2.2.2.2.2.2.2.2.2.2.1, x, S.2.2.2.2.2.2.2.2.2.2.2.2.2.2.2.2)
def ST.sToSleep (S : ST) (x : Int32) : ST := (S.1, S.2.1, S.2.2.1, S.2.2.2.1, S.2.2.2.2.1, S.2.2.2.2.2.1, S.2.2.2.2.2.2.1, S.2.2.2.2.2.2.2.1, S.2.2.2.2.2.2.2.2.1, S.2.2.2.2.2.2.2.2.2.1, S.2.2.2.2.2.2.2.2.2.2.1, S.2.2.2.2.2.2.2.2.2.2.2.1, S.2.2.2.2.2.2.2.2.2.2.2.2.1, S.2.2.2.2.2.2.2.2.2.2.2.2.2.1, S.2.2.2.2.2.2.2.2.2.2.2.2.2.2.1, S.2.2.2.2.2.2.2.2.2.2.2.2.2.2.2.1, x)
set_option maxRecDepth 100000 in
theorem ST_gs : (∀ (S : ST) (x : (Nat → Int32)), (S.sSettings x).settings = x) ∧
  (∀ (S : ST) (x : (Nat → Int32)), (S.sSettings x).P = S.P) ∧
  (∀ (S : ST) (x : (Nat → Int32)), (S.sSettings x).Z = S.Z) ∧
  (∀ (S : ST) (x : (Nat → Int32)), (S.sSettings x).N = S.N) ∧
  (∀ (S : ST) (x : (Nat → Int32)), (S.sSettings x).E = S.E) ∧
  (∀ (S : ST) (x : (Nat → Int32)), (S.sSettings x).time = S.time) ∧
  (∀ (S : ST) (x : (Nat → Int32)), (S.sSettings x).pressure = S.pressure) ∧
  (∀ (S : ST) (x : (Nat → Int32)), (S.sSettings x).level = S.level) ∧
  (∀ (S : ST) (x : (Nat → Int32)), (S.sSettings x).leak = S.leak) ∧
  (∀ (S : ST) (x : (Nat → Int32)), (S.sSettings x).supply = S.supply) ∧
  (∀ (S : ST) (x : (Nat → Int32)), (S.sSettings x).allSupplied = S.allSupplied) ∧
  (∀ (S : ST) (x : (Nat → Int32)), (S.sSettings x).dry = S.dry) ∧
  (∀ (S : ST) (x : (Nat → Int32)), (S.sSettings x).dryMinutes = S.dryMinutes) ∧
  (∀ (S : ST) (x : (Nat → Int32)), (S.sSettings x).trips = S.trips) ∧
  (∀ (S : ST) (x : (Nat → Int32)), (S.sSettings x).toStart = S.toStart) ∧
  (∀ (S : ST) (x : (Nat → Int32)), (S.sSettings x).toStop = S.toStop) ∧
  (∀ (S : ST) (x : (Nat → Int32)), (S.sSettings x).toSleep = S.toSleep) ∧
  (∀ (S : ST) (x y : (Nat → Int32)), (S.sSettings x).sSettings y = S.sSettings y) ∧
  (∀ (S : ST) (x : PT), (S.sP x).settings = S.settings) ∧
  (∀ (S : ST) (x : PT), (S.sP x).P = x) ∧
  (∀ (S : ST) (x : PT), (S.sP x).Z = S.Z) ∧
  (∀ (S : ST) (x : PT), (S.sP x).N = S.N) ∧
  (∀ (S : ST) (x : PT), (S.sP x).E = S.E) ∧
  (∀ (S : ST) (x : PT), (S.sP x).time = S.time) ∧
  (∀ (S : ST) (x : PT), (S.sP x).pressure = S.pressure) ∧
  (∀ (S : ST) (x : PT), (S.sP x).level = S.level) ∧
  (∀ (S : ST) (x : PT), (S.sP x).leak = S.leak) ∧
  (∀ (S : ST) (x : PT), (S.sP x).supply = S.supply) ∧
  (∀ (S : ST) (x : PT), (S.sP x).allSupplied = S.allSupplied) ∧
  (∀ (S : ST) (x : PT), (S.sP x).dry = S.dry) ∧
  (∀ (S : ST) (x : PT), (S.sP x).dryMinutes = S.dryMinutes) ∧
  (∀ (S : ST) (x : PT), (S.sP x).trips = S.trips) ∧
  (∀ (S : ST) (x : PT), (S.sP x).toStart = S.toStart) ∧
  (∀ (S : ST) (x : PT), (S.sP x).toStop = S.toStop) ∧
  (∀ (S : ST) (x : PT), (S.sP x).toSleep = S.toSleep) ∧
  (∀ (S : ST) (x y : PT), (S.sP x).sP y = S.sP y) ∧
  (∀ (S : ST) (x : ZT), (S.sZ x).settings = S.settings) ∧
  (∀ (S : ST) (x : ZT), (S.sZ x).P = S.P) ∧
  (∀ (S : ST) (x : ZT), (S.sZ x).Z = x) ∧
  (∀ (S : ST) (x : ZT), (S.sZ x).N = S.N) ∧
  (∀ (S : ST) (x : ZT), (S.sZ x).E = S.E) ∧
  (∀ (S : ST) (x : ZT), (S.sZ x).time = S.time) ∧
  (∀ (S : ST) (x : ZT), (S.sZ x).pressure = S.pressure) ∧
  (∀ (S : ST) (x : ZT), (S.sZ x).level = S.level) ∧
  (∀ (S : ST) (x : ZT), (S.sZ x).leak = S.leak) ∧
  (∀ (S : ST) (x : ZT), (S.sZ x).supply = S.supply) ∧
  (∀ (S : ST) (x : ZT), (S.sZ x).allSupplied = S.allSupplied) ∧
  (∀ (S : ST) (x : ZT), (S.sZ x).dry = S.dry) ∧
  (∀ (S : ST) (x : ZT), (S.sZ x).dryMinutes = S.dryMinutes) ∧
  (∀ (S : ST) (x : ZT), (S.sZ x).trips = S.trips) ∧
  (∀ (S : ST) (x : ZT), (S.sZ x).toStart = S.toStart) ∧
  (∀ (S : ST) (x : ZT), (S.sZ x).toStop = S.toStop) ∧
  (∀ (S : ST) (x : ZT), (S.sZ x).toSleep = S.toSleep) ∧
  (∀ (S : ST) (x y : ZT), (S.sZ x).sZ y = S.sZ y) ∧
  (∀ (S : ST) (x : NT), (S.sN x).settings = S.settings) ∧
  (∀ (S : ST) (x : NT), (S.sN x).P = S.P) ∧
  (∀ (S : ST) (x : NT), (S.sN x).Z = S.Z) ∧
  (∀ (S : ST) (x : NT), (S.sN x).N = x) ∧
  (∀ (S : ST) (x : NT), (S.sN x).E = S.E) ∧
  (∀ (S : ST) (x : NT), (S.sN x).time = S.time) ∧
  (∀ (S : ST) (x : NT), (S.sN x).pressure = S.pressure) ∧
  (∀ (S : ST) (x : NT), (S.sN x).level = S.level) ∧
  (∀ (S : ST) (x : NT), (S.sN x).leak = S.leak) ∧
  (∀ (S : ST) (x : NT), (S.sN x).supply = S.supply) ∧
  (∀ (S : ST) (x : NT), (S.sN x).allSupplied = S.allSupplied) ∧
  (∀ (S : ST) (x : NT), (S.sN x).dry = S.dry) ∧
  (∀ (S : ST) (x : NT), (S.sN x).dryMinutes = S.dryMinutes) ∧
  (∀ (S : ST) (x : NT), (S.sN x).trips = S.trips) ∧
  (∀ (S : ST) (x : NT), (S.sN x).toStart = S.toStart) ∧
  (∀ (S : ST) (x : NT), (S.sN x).toStop = S.toStop) ∧
  (∀ (S : ST) (x : NT), (S.sN x).toSleep = S.toSleep) ∧
  (∀ (S : ST) (x y : NT), (S.sN x).sN y = S.sN y) ∧
  (∀ (S : ST) (x : ET), (S.sE x).settings = S.settings) ∧
  (∀ (S : ST) (x : ET), (S.sE x).P = S.P) ∧
  (∀ (S : ST) (x : ET), (S.sE x).Z = S.Z) ∧
  (∀ (S : ST) (x : ET), (S.sE x).N = S.N) ∧
  (∀ (S : ST) (x : ET), (S.sE x).E = x) ∧
  (∀ (S : ST) (x : ET), (S.sE x).time = S.time) ∧
  (∀ (S : ST) (x : ET), (S.sE x).pressure = S.pressure) ∧
  (∀ (S : ST) (x : ET), (S.sE x).level = S.level) ∧
  (∀ (S : ST) (x : ET), (S.sE x).leak = S.leak) ∧
  (∀ (S : ST) (x : ET), (S.sE x).supply = S.supply) ∧
  (∀ (S : ST) (x : ET), (S.sE x).allSupplied = S.allSupplied) ∧
  (∀ (S : ST) (x : ET), (S.sE x).dry = S.dry) ∧
  (∀ (S : ST) (x : ET), (S.sE x).dryMinutes = S.dryMinutes) ∧
  (∀ (S : ST) (x : ET), (S.sE x).trips = S.trips) ∧
  (∀ (S : ST) (x : ET), (S.sE x).toStart = S.toStart) ∧
  (∀ (S : ST) (x : ET), (S.sE x).toStop = S.toStop) ∧
  (∀ (S : ST) (x : ET), (S.sE x).toSleep = S.toSleep) ∧
  (∀ (S : ST) (x y : ET), (S.sE x).sE y = S.sE y) ∧
  (∀ (S : ST) (x : Int32), (S.sTime x).settings = S.settings) ∧
  (∀ (S : ST) (x : Int32), (S.sTime x).P = S.P) ∧
  (∀ (S : ST) (x : Int32), (S.sTime x).Z = S.Z) ∧
  (∀ (S : ST) (x : Int32), (S.sTime x).N = S.N) ∧
  (∀ (S : ST) (x : Int32), (S.sTime x).E = S.E) ∧
  (∀ (S : ST) (x : Int32), (S.sTime x).time = x) ∧
  (∀ (S : ST) (x : Int32), (S.sTime x).pressure = S.pressure) ∧
  (∀ (S : ST) (x : Int32), (S.sTime x).level = S.level) ∧
  (∀ (S : ST) (x : Int32), (S.sTime x).leak = S.leak) ∧
  (∀ (S : ST) (x : Int32), (S.sTime x).supply = S.supply) ∧
  (∀ (S : ST) (x : Int32), (S.sTime x).allSupplied = S.allSupplied) ∧
  (∀ (S : ST) (x : Int32), (S.sTime x).dry = S.dry) ∧
  (∀ (S : ST) (x : Int32), (S.sTime x).dryMinutes = S.dryMinutes) ∧
  (∀ (S : ST) (x : Int32), (S.sTime x).trips = S.trips) ∧
  (∀ (S : ST) (x : Int32), (S.sTime x).toStart = S.toStart) ∧
  (∀ (S : ST) (x : Int32), (S.sTime x).toStop = S.toStop) ∧
  (∀ (S : ST) (x : Int32), (S.sTime x).toSleep = S.toSleep) ∧
  (∀ (S : ST) (x y : Int32), (S.sTime x).sTime y = S.sTime y) ∧
  (∀ (S : ST) (x : Int32), (S.sPressure x).settings = S.settings) ∧
  (∀ (S : ST) (x : Int32), (S.sPressure x).P = S.P) ∧
  (∀ (S : ST) (x : Int32), (S.sPressure x).Z = S.Z) ∧
  (∀ (S : ST) (x : Int32), (S.sPressure x).N = S.N) ∧
  (∀ (S : ST) (x : Int32), (S.sPressure x).E = S.E) ∧
  (∀ (S : ST) (x : Int32), (S.sPressure x).time = S.time) ∧
  (∀ (S : ST) (x : Int32), (S.sPressure x).pressure = x) ∧
  (∀ (S : ST) (x : Int32), (S.sPressure x).level = S.level) ∧
  (∀ (S : ST) (x : Int32), (S.sPressure x).leak = S.leak) ∧
  (∀ (S : ST) (x : Int32), (S.sPressure x).supply = S.supply) ∧
  (∀ (S : ST) (x : Int32), (S.sPressure x).allSupplied = S.allSupplied) ∧
  (∀ (S : ST) (x : Int32), (S.sPressure x).dry = S.dry) ∧
  (∀ (S : ST) (x : Int32), (S.sPressure x).dryMinutes = S.dryMinutes) ∧
  (∀ (S : ST) (x : Int32), (S.sPressure x).trips = S.trips) ∧
  (∀ (S : ST) (x : Int32), (S.sPressure x).toStart = S.toStart) ∧
  (∀ (S : ST) (x : Int32), (S.sPressure x).toStop = S.toStop) ∧
  (∀ (S : ST) (x : Int32), (S.sPressure x).toSleep = S.toSleep) ∧
  (∀ (S : ST) (x y : Int32), (S.sPressure x).sPressure y = S.sPressure y) ∧
  (∀ (S : ST) (x : Int32), (S.sLevel x).settings = S.settings) ∧
  (∀ (S : ST) (x : Int32), (S.sLevel x).P = S.P) ∧
  (∀ (S : ST) (x : Int32), (S.sLevel x).Z = S.Z) ∧
  (∀ (S : ST) (x : Int32), (S.sLevel x).N = S.N) ∧
  (∀ (S : ST) (x : Int32), (S.sLevel x).E = S.E) ∧
  (∀ (S : ST) (x : Int32), (S.sLevel x).time = S.time) ∧
  (∀ (S : ST) (x : Int32), (S.sLevel x).pressure = S.pressure) ∧
  (∀ (S : ST) (x : Int32), (S.sLevel x).level = x) ∧
  (∀ (S : ST) (x : Int32), (S.sLevel x).leak = S.leak) ∧
  (∀ (S : ST) (x : Int32), (S.sLevel x).supply = S.supply) ∧
  (∀ (S : ST) (x : Int32), (S.sLevel x).allSupplied = S.allSupplied) ∧
  (∀ (S : ST) (x : Int32), (S.sLevel x).dry = S.dry) ∧
  (∀ (S : ST) (x : Int32), (S.sLevel x).dryMinutes = S.dryMinutes) ∧
  (∀ (S : ST) (x : Int32), (S.sLevel x).trips = S.trips) ∧
  (∀ (S : ST) (x : Int32), (S.sLevel x).toStart = S.toStart) ∧
  (∀ (S : ST) (x : Int32), (S.sLevel x).toStop = S.toStop) ∧
  (∀ (S : ST) (x : Int32), (S.sLevel x).toSleep = S.toSleep) ∧
  (∀ (S : ST) (x y : Int32), (S.sLevel x).sLevel y = S.sLevel y) ∧
  (∀ (S : ST) (x : Int32), (S.sLeak x).settings = S.settings) ∧
  (∀ (S : ST) (x : Int32), (S.sLeak x).P = S.P) ∧
  (∀ (S : ST) (x : Int32), (S.sLeak x).Z = S.Z) ∧
  (∀ (S : ST) (x : Int32), (S.sLeak x).N = S.N) ∧
  (∀ (S : ST) (x : Int32), (S.sLeak x).E = S.E) ∧
  (∀ (S : ST) (x : Int32), (S.sLeak x).time = S.time) ∧
  (∀ (S : ST) (x : Int32), (S.sLeak x).pressure = S.pressure) ∧
  (∀ (S : ST) (x : Int32), (S.sLeak x).level = S.level) ∧
  (∀ (S : ST) (x : Int32), (S.sLeak x).leak = x) ∧
  (∀ (S : ST) (x : Int32), (S.sLeak x).supply = S.supply) ∧
  (∀ (S : ST) (x : Int32), (S.sLeak x).allSupplied = S.allSupplied) ∧
  (∀ (S : ST) (x : Int32), (S.sLeak x).dry = S.dry) ∧
  (∀ (S : ST) (x : Int32), (S.sLeak x).dryMinutes = S.dryMinutes) ∧
  (∀ (S : ST) (x : Int32), (S.sLeak x).trips = S.trips) ∧
  (∀ (S : ST) (x : Int32), (S.sLeak x).toStart = S.toStart) ∧
  (∀ (S : ST) (x : Int32), (S.sLeak x).toStop = S.toStop) ∧
  (∀ (S : ST) (x : Int32), (S.sLeak x).toSleep = S.toSleep) ∧
  (∀ (S : ST) (x y : Int32), (S.sLeak x).sLeak y = S.sLeak y) ∧
  (∀ (S : ST) (x : Int32), (S.sSupply x).settings = S.settings) ∧
  (∀ (S : ST) (x : Int32), (S.sSupply x).P = S.P) ∧
  (∀ (S : ST) (x : Int32), (S.sSupply x).Z = S.Z) ∧
  (∀ (S : ST) (x : Int32), (S.sSupply x).N = S.N) ∧
  (∀ (S : ST) (x : Int32), (S.sSupply x).E = S.E) ∧
  (∀ (S : ST) (x : Int32), (S.sSupply x).time = S.time) ∧
  (∀ (S : ST) (x : Int32), (S.sSupply x).pressure = S.pressure) ∧
  (∀ (S : ST) (x : Int32), (S.sSupply x).level = S.level) ∧
  (∀ (S : ST) (x : Int32), (S.sSupply x).leak = S.leak) ∧
  (∀ (S : ST) (x : Int32), (S.sSupply x).supply = x) ∧
  (∀ (S : ST) (x : Int32), (S.sSupply x).allSupplied = S.allSupplied) ∧
  (∀ (S : ST) (x : Int32), (S.sSupply x).dry = S.dry) ∧
  (∀ (S : ST) (x : Int32), (S.sSupply x).dryMinutes = S.dryMinutes) ∧
  (∀ (S : ST) (x : Int32), (S.sSupply x).trips = S.trips) ∧
  (∀ (S : ST) (x : Int32), (S.sSupply x).toStart = S.toStart) ∧
  (∀ (S : ST) (x : Int32), (S.sSupply x).toStop = S.toStop) ∧
  (∀ (S : ST) (x : Int32), (S.sSupply x).toSleep = S.toSleep) ∧
  (∀ (S : ST) (x y : Int32), (S.sSupply x).sSupply y = S.sSupply y) ∧
  (∀ (S : ST) (x : Int32), (S.sAllSupplied x).settings = S.settings) ∧
  (∀ (S : ST) (x : Int32), (S.sAllSupplied x).P = S.P) ∧
  (∀ (S : ST) (x : Int32), (S.sAllSupplied x).Z = S.Z) ∧
  (∀ (S : ST) (x : Int32), (S.sAllSupplied x).N = S.N) ∧
  (∀ (S : ST) (x : Int32), (S.sAllSupplied x).E = S.E) ∧
  (∀ (S : ST) (x : Int32), (S.sAllSupplied x).time = S.time) ∧
  (∀ (S : ST) (x : Int32), (S.sAllSupplied x).pressure = S.pressure) ∧
  (∀ (S : ST) (x : Int32), (S.sAllSupplied x).level = S.level) ∧
  (∀ (S : ST) (x : Int32), (S.sAllSupplied x).leak = S.leak) ∧
  (∀ (S : ST) (x : Int32), (S.sAllSupplied x).supply = S.supply) ∧
  (∀ (S : ST) (x : Int32), (S.sAllSupplied x).allSupplied = x) ∧
  (∀ (S : ST) (x : Int32), (S.sAllSupplied x).dry = S.dry) ∧
  (∀ (S : ST) (x : Int32), (S.sAllSupplied x).dryMinutes = S.dryMinutes) ∧
  (∀ (S : ST) (x : Int32), (S.sAllSupplied x).trips = S.trips) ∧
  (∀ (S : ST) (x : Int32), (S.sAllSupplied x).toStart = S.toStart) ∧
  (∀ (S : ST) (x : Int32), (S.sAllSupplied x).toStop = S.toStop) ∧
  (∀ (S : ST) (x : Int32), (S.sAllSupplied x).toSleep = S.toSleep) ∧
  (∀ (S : ST) (x y : Int32), (S.sAllSupplied x).sAllSupplied y = S.sAllSupplied y) ∧
  (∀ (S : ST) (x : Int32), (S.sDry x).settings = S.settings) ∧
  (∀ (S : ST) (x : Int32), (S.sDry x).P = S.P) ∧
  (∀ (S : ST) (x : Int32), (S.sDry x).Z = S.Z) ∧
  (∀ (S : ST) (x : Int32), (S.sDry x).N = S.N) ∧
  (∀ (S : ST) (x : Int32), (S.sDry x).E = S.E) ∧
  (∀ (S : ST) (x : Int32), (S.sDry x).time = S.time) ∧
  (∀ (S : ST) (x : Int32), (S.sDry x).pressure = S.pressure) ∧
  (∀ (S : ST) (x : Int32), (S.sDry x).level = S.level) ∧
  (∀ (S : ST) (x : Int32), (S.sDry x).leak = S.leak) ∧
  (∀ (S : ST) (x : Int32), (S.sDry x).supply = S.supply) ∧
  (∀ (S : ST) (x : Int32), (S.sDry x).allSupplied = S.allSupplied) ∧
  (∀ (S : ST) (x : Int32), (S.sDry x).dry = x) ∧
  (∀ (S : ST) (x : Int32), (S.sDry x).dryMinutes = S.dryMinutes) ∧
  (∀ (S : ST) (x : Int32), (S.sDry x).trips = S.trips) ∧
  (∀ (S : ST) (x : Int32), (S.sDry x).toStart = S.toStart) ∧
  (∀ (S : ST) (x : Int32), (S.sDry x).toStop = S.toStop) ∧
  (∀ (S : ST) (x : Int32), (S.sDry x).toSleep = S.toSleep) ∧
  (∀ (S : ST) (x y : Int32), (S.sDry x).sDry y = S.sDry y) ∧
  (∀ (S : ST) (x : Int32), (S.sDryMinutes x).settings = S.settings) ∧
  (∀ (S : ST) (x : Int32), (S.sDryMinutes x).P = S.P) ∧
  (∀ (S : ST) (x : Int32), (S.sDryMinutes x).Z = S.Z) ∧
  (∀ (S : ST) (x : Int32), (S.sDryMinutes x).N = S.N) ∧
  (∀ (S : ST) (x : Int32), (S.sDryMinutes x).E = S.E) ∧
  (∀ (S : ST) (x : Int32), (S.sDryMinutes x).time = S.time) ∧
  (∀ (S : ST) (x : Int32), (S.sDryMinutes x).pressure = S.pressure) ∧
  (∀ (S : ST) (x : Int32), (S.sDryMinutes x).level = S.level) ∧
  (∀ (S : ST) (x : Int32), (S.sDryMinutes x).leak = S.leak) ∧
  (∀ (S : ST) (x : Int32), (S.sDryMinutes x).supply = S.supply) ∧
  (∀ (S : ST) (x : Int32), (S.sDryMinutes x).allSupplied = S.allSupplied) ∧
  (∀ (S : ST) (x : Int32), (S.sDryMinutes x).dry = S.dry) ∧
  (∀ (S : ST) (x : Int32), (S.sDryMinutes x).dryMinutes = x) ∧
  (∀ (S : ST) (x : Int32), (S.sDryMinutes x).trips = S.trips) ∧
  (∀ (S : ST) (x : Int32), (S.sDryMinutes x).toStart = S.toStart) ∧
  (∀ (S : ST) (x : Int32), (S.sDryMinutes x).toStop = S.toStop) ∧
  (∀ (S : ST) (x : Int32), (S.sDryMinutes x).toSleep = S.toSleep) ∧
  (∀ (S : ST) (x y : Int32), (S.sDryMinutes x).sDryMinutes y = S.sDryMinutes y) ∧
  (∀ (S : ST) (x : Int32), (S.sTrips x).settings = S.settings) ∧
  (∀ (S : ST) (x : Int32), (S.sTrips x).P = S.P) ∧
  (∀ (S : ST) (x : Int32), (S.sTrips x).Z = S.Z) ∧
  (∀ (S : ST) (x : Int32), (S.sTrips x).N = S.N) ∧
  (∀ (S : ST) (x : Int32), (S.sTrips x).E = S.E) ∧
  (∀ (S : ST) (x : Int32), (S.sTrips x).time = S.time) ∧
  (∀ (S : ST) (x : Int32), (S.sTrips x).pressure = S.pressure) ∧
  (∀ (S : ST) (x : Int32), (S.sTrips x).level = S.level) ∧
  (∀ (S : ST) (x : Int32), (S.sTrips x).leak = S.leak) ∧
  (∀ (S : ST) (x : Int32), (S.sTrips x).supply = S.supply) ∧
  (∀ (S : ST) (x : Int32), (S.sTrips x).allSupplied = S.allSupplied) ∧
  (∀ (S : ST) (x : Int32), (S.sTrips x).dry = S.dry) ∧
  (∀ (S : ST) (x : Int32), (S.sTrips x).dryMinutes = S.dryMinutes) ∧
  (∀ (S : ST) (x : Int32), (S.sTrips x).trips = x) ∧
  (∀ (S : ST) (x : Int32), (S.sTrips x).toStart = S.toStart) ∧
  (∀ (S : ST) (x : Int32), (S.sTrips x).toStop = S.toStop) ∧
  (∀ (S : ST) (x : Int32), (S.sTrips x).toSleep = S.toSleep) ∧
  (∀ (S : ST) (x y : Int32), (S.sTrips x).sTrips y = S.sTrips y) ∧
  (∀ (S : ST) (x : Int32), (S.sToStart x).settings = S.settings) ∧
  (∀ (S : ST) (x : Int32), (S.sToStart x).P = S.P) ∧
  (∀ (S : ST) (x : Int32), (S.sToStart x).Z = S.Z) ∧
  (∀ (S : ST) (x : Int32), (S.sToStart x).N = S.N) ∧
  (∀ (S : ST) (x : Int32), (S.sToStart x).E = S.E) ∧
  (∀ (S : ST) (x : Int32), (S.sToStart x).time = S.time) ∧
  (∀ (S : ST) (x : Int32), (S.sToStart x).pressure = S.pressure) ∧
  (∀ (S : ST) (x : Int32), (S.sToStart x).level = S.level) ∧
  (∀ (S : ST) (x : Int32), (S.sToStart x).leak = S.leak) ∧
  (∀ (S : ST) (x : Int32), (S.sToStart x).supply = S.supply) ∧
  (∀ (S : ST) (x : Int32), (S.sToStart x).allSupplied = S.allSupplied) ∧
  (∀ (S : ST) (x : Int32), (S.sToStart x).dry = S.dry) ∧
  (∀ (S : ST) (x : Int32), (S.sToStart x).dryMinutes = S.dryMinutes) ∧
  (∀ (S : ST) (x : Int32), (S.sToStart x).trips = S.trips) ∧
  (∀ (S : ST) (x : Int32), (S.sToStart x).toStart = x) ∧
  (∀ (S : ST) (x : Int32), (S.sToStart x).toStop = S.toStop) ∧
  (∀ (S : ST) (x : Int32), (S.sToStart x).toSleep = S.toSleep) ∧
  (∀ (S : ST) (x y : Int32), (S.sToStart x).sToStart y = S.sToStart y) ∧
  (∀ (S : ST) (x : Int32), (S.sToStop x).settings = S.settings) ∧
  (∀ (S : ST) (x : Int32), (S.sToStop x).P = S.P) ∧
  (∀ (S : ST) (x : Int32), (S.sToStop x).Z = S.Z) ∧
  (∀ (S : ST) (x : Int32), (S.sToStop x).N = S.N) ∧
  (∀ (S : ST) (x : Int32), (S.sToStop x).E = S.E) ∧
  (∀ (S : ST) (x : Int32), (S.sToStop x).time = S.time) ∧
  (∀ (S : ST) (x : Int32), (S.sToStop x).pressure = S.pressure) ∧
  (∀ (S : ST) (x : Int32), (S.sToStop x).level = S.level) ∧
  (∀ (S : ST) (x : Int32), (S.sToStop x).leak = S.leak) ∧
  (∀ (S : ST) (x : Int32), (S.sToStop x).supply = S.supply) ∧
  (∀ (S : ST) (x : Int32), (S.sToStop x).allSupplied = S.allSupplied) ∧
  (∀ (S : ST) (x : Int32), (S.sToStop x).dry = S.dry) ∧
  (∀ (S : ST) (x : Int32), (S.sToStop x).dryMinutes = S.dryMinutes) ∧
  (∀ (S : ST) (x : Int32), (S.sToStop x).trips = S.trips) ∧
  (∀ (S : ST) (x : Int32), (S.sToStop x).toStart = S.toStart) ∧
  (∀ (S : ST) (x : Int32), (S.sToStop x).toStop = x) ∧
  (∀ (S : ST) (x : Int32), (S.sToStop x).toSleep = S.toSleep) ∧
  (∀ (S : ST) (x y : Int32), (S.sToStop x).sToStop y = S.sToStop y) ∧
  (∀ (S : ST) (x : Int32), (S.sToSleep x).settings = S.settings) ∧
  (∀ (S : ST) (x : Int32), (S.sToSleep x).P = S.P) ∧
  (∀ (S : ST) (x : Int32), (S.sToSleep x).Z = S.Z) ∧
  (∀ (S : ST) (x : Int32), (S.sToSleep x).N = S.N) ∧
  (∀ (S : ST) (x : Int32), (S.sToSleep x).E = S.E) ∧
  (∀ (S : ST) (x : Int32), (S.sToSleep x).time = S.time) ∧
  (∀ (S : ST) (x : Int32), (S.sToSleep x).pressure = S.pressure) ∧
  (∀ (S : ST) (x : Int32), (S.sToSleep x).level = S.level) ∧
  (∀ (S : ST) (x : Int32), (S.sToSleep x).leak = S.leak) ∧
  (∀ (S : ST) (x : Int32), (S.sToSleep x).supply = S.supply) ∧
  (∀ (S : ST) (x : Int32), (S.sToSleep x).allSupplied = S.allSupplied) ∧
  (∀ (S : ST) (x : Int32), (S.sToSleep x).dry = S.dry) ∧
  (∀ (S : ST) (x : Int32), (S.sToSleep x).dryMinutes = S.dryMinutes) ∧
  (∀ (S : ST) (x : Int32), (S.sToSleep x).trips = S.trips) ∧
  (∀ (S : ST) (x : Int32), (S.sToSleep x).toStart = S.toStart) ∧
  (∀ (S : ST) (x : Int32), (S.sToSleep x).toStop = S.toStop) ∧
  (∀ (S : ST) (x : Int32), (S.sToSleep x).toSleep = x) ∧
  (∀ (S : ST) (x y : Int32), (S.sToSleep x).sToSleep y = S.sToSleep y) := by
  repeat' apply And.intro
  all_goals (intros; rfl)
theorem ST.ext' {a b : ST} (h0 : a.settings = b.settings) (h1 : a.P = b.P) (h2 : a.Z = b.Z) (h3 : a.N = b.N) (h4 : a.E = b.E) (h5 : a.time = b.time) (h6 : a.pressure = b.pressure) (h7 : a.level = b.level) (h8 : a.leak = b.leak) (h9 : a.supply = b.supply) (h10 : a.allSupplied = b.allSupplied) (h11 : a.dry = b.dry) (h12 : a.dryMinutes = b.dryMinutes) (h13 : a.trips = b.trips) (h14 : a.toStart = b.toStart) (h15 : a.toStop = b.toStop) (h16 : a.toSleep = b.toSleep) : a = b := by
  unfold ST.settings ST.P ST.Z ST.N ST.E ST.time ST.pressure ST.level ST.leak ST.supply ST.allSupplied ST.dry ST.dryMinutes ST.trips ST.toStart ST.toStop ST.toSleep at *
  exact Prod.ext h0 (Prod.ext h1 (Prod.ext h2 (Prod.ext h3 (Prod.ext h4 (Prod.ext h5 (Prod.ext h6 (Prod.ext h7 (Prod.ext h8 (Prod.ext h9 (Prod.ext h10 (Prod.ext h11 (Prod.ext h12 (Prod.ext h13 (Prod.ext h14 (Prod.ext h15 h16)))))))))))))))
abbrev FT : Type := ST × ST × (Nat → Option Nat) × Int32 × OT × ST × ST × ST × ST
def FT.now (S : FT) : ST := S.1
def FT.trial (S : FT) : ST := S.2.1
def FT.perm (S : FT) : (Nat → Option Nat) := S.2.2.1
def FT.states (S : FT) : Int32 := S.2.2.2.1
def FT.O (S : FT) : OT := S.2.2.2.2.1
def FT.h0 (S : FT) : ST := S.2.2.2.2.2.1
def FT.h1 (S : FT) : ST := S.2.2.2.2.2.2.1
def FT.h2 (S : FT) : ST := S.2.2.2.2.2.2.2.1
def FT.h3 (S : FT) : ST := S.2.2.2.2.2.2.2.2
def FT.sNow (S : FT) (x : ST) : FT := (x, S.2.1, S.2.2.1, S.2.2.2.1, S.2.2.2.2.1, S.2.2.2.2.2.1, S.2.2.2.2.2.2.1, S.2.2.2.2.2.2.2.1, S.2.2.2.2.2.2.2.2)
def FT.sTrial (S : FT) (x : ST) : FT := (S.1, x, S.2.2.1, S.2.2.2.1, S.2.2.2.2.1, S.2.2.2.2.2.1, S.2.2.2.2.2.2.1, S.2.2.2.2.2.2.2.1, S.2.2.2.2.2.2.2.2)
def FT.sPerm (S : FT) (x : (Nat → Option Nat)) : FT := (S.1, S.2.1, x, S.2.2.2.1, S.2.2.2.2.1, S.2.2.2.2.2.1, S.2.2.2.2.2.2.1, S.2.2.2.2.2.2.2.1, S.2.2.2.2.2.2.2.2)
def FT.sStates (S : FT) (x : Int32) : FT := (S.1, S.2.1, S.2.2.1, x, S.2.2.2.2.1, S.2.2.2.2.2.1, S.2.2.2.2.2.2.1, S.2.2.2.2.2.2.2.1, S.2.2.2.2.2.2.2.2)
def FT.sO (S : FT) (x : OT) : FT := (S.1, S.2.1, S.2.2.1, S.2.2.2.1, x, S.2.2.2.2.2.1, S.2.2.2.2.2.2.1, S.2.2.2.2.2.2.2.1, S.2.2.2.2.2.2.2.2)
def FT.sH0 (S : FT) (x : ST) : FT := (S.1, S.2.1, S.2.2.1, S.2.2.2.1, S.2.2.2.2.1, x, S.2.2.2.2.2.2.1, S.2.2.2.2.2.2.2.1, S.2.2.2.2.2.2.2.2)
def FT.sH1 (S : FT) (x : ST) : FT := (S.1, S.2.1, S.2.2.1, S.2.2.2.1, S.2.2.2.2.1, S.2.2.2.2.2.1, x, S.2.2.2.2.2.2.2.1, S.2.2.2.2.2.2.2.2)
def FT.sH2 (S : FT) (x : ST) : FT := (S.1, S.2.1, S.2.2.1, S.2.2.2.1, S.2.2.2.2.1, S.2.2.2.2.2.1, S.2.2.2.2.2.2.1, x, S.2.2.2.2.2.2.2.2)
def FT.sH3 (S : FT) (x : ST) : FT := (S.1, S.2.1, S.2.2.1, S.2.2.2.1, S.2.2.2.2.1, S.2.2.2.2.2.1, S.2.2.2.2.2.2.1, S.2.2.2.2.2.2.2.1, x)
set_option maxRecDepth 100000 in
theorem FT_gs : (∀ (S : FT) (x : ST), (S.sNow x).now = x) ∧
  (∀ (S : FT) (x : ST), (S.sNow x).trial = S.trial) ∧
  (∀ (S : FT) (x : ST), (S.sNow x).perm = S.perm) ∧
  (∀ (S : FT) (x : ST), (S.sNow x).states = S.states) ∧
  (∀ (S : FT) (x : ST), (S.sNow x).O = S.O) ∧
  (∀ (S : FT) (x : ST), (S.sNow x).h0 = S.h0) ∧
  (∀ (S : FT) (x : ST), (S.sNow x).h1 = S.h1) ∧
  (∀ (S : FT) (x : ST), (S.sNow x).h2 = S.h2) ∧
  (∀ (S : FT) (x : ST), (S.sNow x).h3 = S.h3) ∧
  (∀ (S : FT) (x y : ST), (S.sNow x).sNow y = S.sNow y) ∧
  (∀ (S : FT) (x : ST), (S.sTrial x).now = S.now) ∧
  (∀ (S : FT) (x : ST), (S.sTrial x).trial = x) ∧
  (∀ (S : FT) (x : ST), (S.sTrial x).perm = S.perm) ∧
  (∀ (S : FT) (x : ST), (S.sTrial x).states = S.states) ∧
  (∀ (S : FT) (x : ST), (S.sTrial x).O = S.O) ∧
  (∀ (S : FT) (x : ST), (S.sTrial x).h0 = S.h0) ∧
  (∀ (S : FT) (x : ST), (S.sTrial x).h1 = S.h1) ∧
  (∀ (S : FT) (x : ST), (S.sTrial x).h2 = S.h2) ∧
  (∀ (S : FT) (x : ST), (S.sTrial x).h3 = S.h3) ∧
  (∀ (S : FT) (x y : ST), (S.sTrial x).sTrial y = S.sTrial y) ∧
  (∀ (S : FT) (x : (Nat → Option Nat)), (S.sPerm x).now = S.now) ∧
  (∀ (S : FT) (x : (Nat → Option Nat)), (S.sPerm x).trial = S.trial) ∧
  (∀ (S : FT) (x : (Nat → Option Nat)), (S.sPerm x).perm = x) ∧
  (∀ (S : FT) (x : (Nat → Option Nat)), (S.sPerm x).states = S.states) ∧
  (∀ (S : FT) (x : (Nat → Option Nat)), (S.sPerm x).O = S.O) ∧
  (∀ (S : FT) (x : (Nat → Option Nat)), (S.sPerm x).h0 = S.h0) ∧
  (∀ (S : FT) (x : (Nat → Option Nat)), (S.sPerm x).h1 = S.h1) ∧
  (∀ (S : FT) (x : (Nat → Option Nat)), (S.sPerm x).h2 = S.h2) ∧
  (∀ (S : FT) (x : (Nat → Option Nat)), (S.sPerm x).h3 = S.h3) ∧
  (∀ (S : FT) (x y : (Nat → Option Nat)), (S.sPerm x).sPerm y = S.sPerm y) ∧
  (∀ (S : FT) (x : Int32), (S.sStates x).now = S.now) ∧
  (∀ (S : FT) (x : Int32), (S.sStates x).trial = S.trial) ∧
  (∀ (S : FT) (x : Int32), (S.sStates x).perm = S.perm) ∧
  (∀ (S : FT) (x : Int32), (S.sStates x).states = x) ∧
  (∀ (S : FT) (x : Int32), (S.sStates x).O = S.O) ∧
  (∀ (S : FT) (x : Int32), (S.sStates x).h0 = S.h0) ∧
  (∀ (S : FT) (x : Int32), (S.sStates x).h1 = S.h1) ∧
  (∀ (S : FT) (x : Int32), (S.sStates x).h2 = S.h2) ∧
  (∀ (S : FT) (x : Int32), (S.sStates x).h3 = S.h3) ∧
  (∀ (S : FT) (x y : Int32), (S.sStates x).sStates y = S.sStates y) ∧
  (∀ (S : FT) (x : OT), (S.sO x).now = S.now) ∧
  (∀ (S : FT) (x : OT), (S.sO x).trial = S.trial) ∧
  (∀ (S : FT) (x : OT), (S.sO x).perm = S.perm) ∧
  (∀ (S : FT) (x : OT), (S.sO x).states = S.states) ∧
  (∀ (S : FT) (x : OT), (S.sO x).O = x) ∧
  (∀ (S : FT) (x : OT), (S.sO x).h0 = S.h0) ∧
  (∀ (S : FT) (x : OT), (S.sO x).h1 = S.h1) ∧
  (∀ (S : FT) (x : OT), (S.sO x).h2 = S.h2) ∧
  (∀ (S : FT) (x : OT), (S.sO x).h3 = S.h3) ∧
  (∀ (S : FT) (x y : OT), (S.sO x).sO y = S.sO y) ∧
  (∀ (S : FT) (x : ST), (S.sH0 x).now = S.now) ∧
  (∀ (S : FT) (x : ST), (S.sH0 x).trial = S.trial) ∧
  (∀ (S : FT) (x : ST), (S.sH0 x).perm = S.perm) ∧
  (∀ (S : FT) (x : ST), (S.sH0 x).states = S.states) ∧
  (∀ (S : FT) (x : ST), (S.sH0 x).O = S.O) ∧
  (∀ (S : FT) (x : ST), (S.sH0 x).h0 = x) ∧
  (∀ (S : FT) (x : ST), (S.sH0 x).h1 = S.h1) ∧
  (∀ (S : FT) (x : ST), (S.sH0 x).h2 = S.h2) ∧
  (∀ (S : FT) (x : ST), (S.sH0 x).h3 = S.h3) ∧
  (∀ (S : FT) (x y : ST), (S.sH0 x).sH0 y = S.sH0 y) ∧
  (∀ (S : FT) (x : ST), (S.sH1 x).now = S.now) ∧
  (∀ (S : FT) (x : ST), (S.sH1 x).trial = S.trial) ∧
  (∀ (S : FT) (x : ST), (S.sH1 x).perm = S.perm) ∧
  (∀ (S : FT) (x : ST), (S.sH1 x).states = S.states) ∧
  (∀ (S : FT) (x : ST), (S.sH1 x).O = S.O) ∧
  (∀ (S : FT) (x : ST), (S.sH1 x).h0 = S.h0) ∧
  (∀ (S : FT) (x : ST), (S.sH1 x).h1 = x) ∧
  (∀ (S : FT) (x : ST), (S.sH1 x).h2 = S.h2) ∧
  (∀ (S : FT) (x : ST), (S.sH1 x).h3 = S.h3) ∧
  (∀ (S : FT) (x y : ST), (S.sH1 x).sH1 y = S.sH1 y) ∧
  (∀ (S : FT) (x : ST), (S.sH2 x).now = S.now) ∧
  (∀ (S : FT) (x : ST), (S.sH2 x).trial = S.trial) ∧
  (∀ (S : FT) (x : ST), (S.sH2 x).perm = S.perm) ∧
  (∀ (S : FT) (x : ST), (S.sH2 x).states = S.states) ∧
  (∀ (S : FT) (x : ST), (S.sH2 x).O = S.O) ∧
  (∀ (S : FT) (x : ST), (S.sH2 x).h0 = S.h0) ∧
  (∀ (S : FT) (x : ST), (S.sH2 x).h1 = S.h1) ∧
  (∀ (S : FT) (x : ST), (S.sH2 x).h2 = x) ∧
  (∀ (S : FT) (x : ST), (S.sH2 x).h3 = S.h3) ∧
  (∀ (S : FT) (x y : ST), (S.sH2 x).sH2 y = S.sH2 y) ∧
  (∀ (S : FT) (x : ST), (S.sH3 x).now = S.now) ∧
  (∀ (S : FT) (x : ST), (S.sH3 x).trial = S.trial) ∧
  (∀ (S : FT) (x : ST), (S.sH3 x).perm = S.perm) ∧
  (∀ (S : FT) (x : ST), (S.sH3 x).states = S.states) ∧
  (∀ (S : FT) (x : ST), (S.sH3 x).O = S.O) ∧
  (∀ (S : FT) (x : ST), (S.sH3 x).h0 = S.h0) ∧
  (∀ (S : FT) (x : ST), (S.sH3 x).h1 = S.h1) ∧
  (∀ (S : FT) (x : ST), (S.sH3 x).h2 = S.h2) ∧
  (∀ (S : FT) (x : ST), (S.sH3 x).h3 = x) ∧
  (∀ (S : FT) (x y : ST), (S.sH3 x).sH3 y = S.sH3 y) := by
  repeat' apply And.intro
  all_goals (intros; rfl)
theorem FT.ext' {a b : FT} (h0 : a.now = b.now) (h1 : a.trial = b.trial) (h2 : a.perm = b.perm) (h3 : a.states = b.states) (h4 : a.O = b.O) (h5 : a.h0 = b.h0) (h6 : a.h1 = b.h1) (h7 : a.h2 = b.h2) (h8 : a.h3 = b.h3) : a = b := by
  unfold FT.now FT.trial FT.perm FT.states FT.O FT.h0 FT.h1 FT.h2 FT.h3 at *
  exact Prod.ext h0 (Prod.ext h1 (Prod.ext h2 (Prod.ext h3 (Prod.ext h4 (Prod.ext h5 (Prod.ext h6 (Prod.ext h7 h8)))))))
abbrev sh (b : Nat) (w : xW) : xW := w.map (xcr (fun i => b + i))
def eW (S : ET) : xW := [.inr (.inl (0, [.ref 1, .ref 2, .ref 3, .ref 4, .int S.all])), .inl (0, 12, S.kinds), .inl (0, 12, S.times), .inl (0, 12, S.pumps), .inl (0, 8, S.latest)]
def nW (S : NT) : xW := [.inr (.inl (1, [.ref 1, .int S.size, .int S.flow, .int S.alarms])), .inl (0, 7, S.noted)]
def oW (S : OT) : xW := [.inr (.inl (2, [.ref 1, .int S.length, .int S.place, .int S.behind, .int S.done, .int S.letter, .int S.number])), .inl (2, 60, S.text)]
def pW (S : PT) : xW := [.inr (.inl (3, [.ref 1, .ref 2, .ref 3, .ref 4, .ref 5, .ref 6, .ref 7, .ref 8, .int S.size, .int S.vrb])), .inl (0, 6, S.kinds), .inl (0, 6, S.shutoffs), .inl (0, 6, S.steeps), .inl (1, 6, S.inService), .inl (0, 6, S.speeds), .inl (0, 6, S.minutes), .inl (0, 6, S.since), .inl (0, 6, S.starts)]
def zW (S : ZT) : xW := [.inr (.inl (5, [.ref 1, .ref 2, .int S.size, .ref 3, .ref 4, .ref 5, .int S.programmes])), .inl (0, 8, S.demands), .inl (1, 8, S.isOpen), .inl (0, 8, S.pzones), .inl (0, 8, S.opening), .inl (0, 8, S.closing)]
def stW (S : ST) : xW := .inr (.inl (4, [.ref 1, .ref 2, .ref 11, .ref 17, .ref 19, .int S.time, .int S.pressure, .int S.level, .int S.leak, .int S.supply, .int S.allSupplied, .int S.dry, .int S.dryMinutes, .int S.trips, .int S.toStart, .int S.toStop, .int S.toSleep])) :: .inl (0, 19, S.settings) :: (sh 2 (pW S.P) ++ (sh 11 (zW S.Z) ++ (sh 17 (nW S.N) ++ sh 19 (eW S.E))))
def fpW (S : FT) : xW := .inr (.inl (6, [.ref 1, .ref 25, .ref 49, .int S.states, .ref 50])) :: (sh 1 (stW S.now) ++ (sh 25 (stW S.trial) ++ (.inr (.inr (4, S.perm)) :: (sh 50 (oW S.O) ++ (sh 52 (stW S.h0) ++ (sh 76 (stW S.h1) ++ (sh 100 (stW S.h2) ++ sh 124 (stW S.h3))))))))
set_option maxRecDepth 100000 in
theorem eW_F : (∀ S : ET, getF (eW S) 0 0 0 = some (.ref 1)) ∧
  (∀ S : ET, getF (eW S) 0 0 1 = some (.ref 2)) ∧
  (∀ S : ET, getF (eW S) 0 0 2 = some (.ref 3)) ∧
  (∀ S : ET, getF (eW S) 0 0 3 = some (.ref 4)) ∧
  (∀ S : ET, getF (eW S) 0 0 4 = some (.int S.all)) := by
  repeat' apply And.intro
  all_goals (intro S; rfl)
set_option maxRecDepth 100000 in
theorem eW_A : (∀ S : ET, getA (eW S) 1 = some (0, 12, S.kinds)) ∧
  (∀ S : ET, getA (eW S) 2 = some (0, 12, S.times)) ∧
  (∀ S : ET, getA (eW S) 3 = some (0, 12, S.pumps)) ∧
  (∀ S : ET, getA (eW S) 4 = some (0, 8, S.latest)) := by
  repeat' apply And.intro
  all_goals (intro S; rfl)
def eW_sa (S : ET) (id : Nat) (g : Nat → Int32) : Option ET := if id = 1 then some (S.sKinds g) else if id = 2 then some (S.sTimes g) else if id = 3 then some (S.sPumps g) else if id = 4 then some (S.sLatest g) else none
theorem eW_sar : sarOk eW eW_sa := by
  intro S id g S' t n f h hA
  unfold eW_sa at h
  by_cases h1 : id = 1
  · subst h1
    rw [if_pos rfl] at h
    cases h
    cases hA
    rfl
  rw [if_neg h1] at h
  by_cases h2 : id = 2
  · subst h2
    rw [if_pos rfl] at h
    cases h
    cases hA
    rfl
  rw [if_neg h2] at h
  by_cases h3 : id = 3
  · subst h3
    rw [if_pos rfl] at h
    cases h
    cases hA
    rfl
  rw [if_neg h3] at h
  by_cases h4 : id = 4
  · subst h4
    rw [if_pos rfl] at h
    cases h
    cases hA
    rfl
  rw [if_neg h4] at h
  cases h
set_option maxRecDepth 100000 in
theorem eW_S : (∀ (S : ET) (g : Nat → Int32), eW_sa S 1 g = some (S.sKinds g)) ∧
  (∀ (S : ET) (g : Nat → Int32), eW_sa S 2 g = some (S.sTimes g)) ∧
  (∀ (S : ET) (g : Nat → Int32), eW_sa S 3 g = some (S.sPumps g)) ∧
  (∀ (S : ET) (g : Nat → Int32), eW_sa S 4 g = some (S.sLatest g)) := by
  repeat' apply And.intro
  all_goals (intro S g; rfl)
def eW_p0_4 (S : ET) (id : Nat) (x : Int32) : Option ET := if id = 0 then some (S.sAll x) else none
theorem eW_p0_4_ok : putOk eW 0 4 eW_p0_4 := by
  intro S id x S' h
  unfold eW_p0_4 at h
  by_cases h0 : id = 0
  · subst h0
    rw [if_pos rfl] at h
    cases h
    exact ⟨_, rfl, Nat.le_of_ble_eq_true rfl, rfl⟩
  rw [if_neg h0] at h
  cases h
set_option maxRecDepth 100000 in
theorem eW_P : (∀ (S : ET) (x : Int32), eW_p0_4 S 0 x = some (S.sAll x)) := by
  repeat' apply And.intro
  all_goals (intro S x; rfl)
set_option maxRecDepth 100000 in
theorem nW_F : (∀ S : NT, getF (nW S) 1 0 0 = some (.ref 1)) ∧
  (∀ S : NT, getF (nW S) 1 0 1 = some (.int S.size)) ∧
  (∀ S : NT, getF (nW S) 1 0 2 = some (.int S.flow)) ∧
  (∀ S : NT, getF (nW S) 1 0 3 = some (.int S.alarms)) := by
  repeat' apply And.intro
  all_goals (intro S; rfl)
set_option maxRecDepth 100000 in
theorem nW_A : (∀ S : NT, getA (nW S) 1 = some (0, 7, S.noted)) := by
  repeat' apply And.intro
  all_goals (intro S; rfl)
def nW_sa (S : NT) (id : Nat) (g : Nat → Int32) : Option NT := if id = 1 then some (S.sNoted g) else none
theorem nW_sar : sarOk nW nW_sa := by
  intro S id g S' t n f h hA
  unfold nW_sa at h
  by_cases h1 : id = 1
  · subst h1
    rw [if_pos rfl] at h
    cases h
    cases hA
    rfl
  rw [if_neg h1] at h
  cases h
set_option maxRecDepth 100000 in
theorem nW_S : (∀ (S : NT) (g : Nat → Int32), nW_sa S 1 g = some (S.sNoted g)) := by
  repeat' apply And.intro
  all_goals (intro S g; rfl)
def nW_p1_1 (S : NT) (id : Nat) (x : Int32) : Option NT := if id = 0 then some (S.sSize x) else none
theorem nW_p1_1_ok : putOk nW 1 1 nW_p1_1 := by
  intro S id x S' h
  unfold nW_p1_1 at h
  by_cases h0 : id = 0
  · subst h0
    rw [if_pos rfl] at h
    cases h
    exact ⟨_, rfl, Nat.le_of_ble_eq_true rfl, rfl⟩
  rw [if_neg h0] at h
  cases h
def nW_p1_2 (S : NT) (id : Nat) (x : Int32) : Option NT := if id = 0 then some (S.sFlow x) else none
theorem nW_p1_2_ok : putOk nW 1 2 nW_p1_2 := by
  intro S id x S' h
  unfold nW_p1_2 at h
  by_cases h0 : id = 0
  · subst h0
    rw [if_pos rfl] at h
    cases h
    exact ⟨_, rfl, Nat.le_of_ble_eq_true rfl, rfl⟩
  rw [if_neg h0] at h
  cases h
def nW_p1_3 (S : NT) (id : Nat) (x : Int32) : Option NT := if id = 0 then some (S.sAlarms x) else none
theorem nW_p1_3_ok : putOk nW 1 3 nW_p1_3 := by
  intro S id x S' h
  unfold nW_p1_3 at h
  by_cases h0 : id = 0
  · subst h0
    rw [if_pos rfl] at h
    cases h
    exact ⟨_, rfl, Nat.le_of_ble_eq_true rfl, rfl⟩
  rw [if_neg h0] at h
  cases h
set_option maxRecDepth 100000 in
theorem nW_P : (∀ (S : NT) (x : Int32), nW_p1_1 S 0 x = some (S.sSize x)) ∧
  (∀ (S : NT) (x : Int32), nW_p1_2 S 0 x = some (S.sFlow x)) ∧
  (∀ (S : NT) (x : Int32), nW_p1_3 S 0 x = some (S.sAlarms x)) := by
  repeat' apply And.intro
  all_goals (intro S x; rfl)
set_option maxRecDepth 100000 in
theorem oW_F : (∀ S : OT, getF (oW S) 2 0 0 = some (.ref 1)) ∧
  (∀ S : OT, getF (oW S) 2 0 1 = some (.int S.length)) ∧
  (∀ S : OT, getF (oW S) 2 0 2 = some (.int S.place)) ∧
  (∀ S : OT, getF (oW S) 2 0 3 = some (.int S.behind)) ∧
  (∀ S : OT, getF (oW S) 2 0 4 = some (.int S.done)) ∧
  (∀ S : OT, getF (oW S) 2 0 5 = some (.int S.letter)) ∧
  (∀ S : OT, getF (oW S) 2 0 6 = some (.int S.number)) := by
  repeat' apply And.intro
  all_goals (intro S; rfl)
set_option maxRecDepth 100000 in
theorem oW_A : (∀ S : OT, getA (oW S) 1 = some (2, 60, S.text)) := by
  repeat' apply And.intro
  all_goals (intro S; rfl)
def oW_sa (S : OT) (id : Nat) (g : Nat → Int32) : Option OT := if id = 1 then some (S.sText g) else none
theorem oW_sar : sarOk oW oW_sa := by
  intro S id g S' t n f h hA
  unfold oW_sa at h
  by_cases h1 : id = 1
  · subst h1
    rw [if_pos rfl] at h
    cases h
    cases hA
    rfl
  rw [if_neg h1] at h
  cases h
set_option maxRecDepth 100000 in
theorem oW_S : (∀ (S : OT) (g : Nat → Int32), oW_sa S 1 g = some (S.sText g)) := by
  repeat' apply And.intro
  all_goals (intro S g; rfl)
def oW_p2_1 (S : OT) (id : Nat) (x : Int32) : Option OT := if id = 0 then some (S.sLength x) else none
theorem oW_p2_1_ok : putOk oW 2 1 oW_p2_1 := by
  intro S id x S' h
  unfold oW_p2_1 at h
  by_cases h0 : id = 0
  · subst h0
    rw [if_pos rfl] at h
    cases h
    exact ⟨_, rfl, Nat.le_of_ble_eq_true rfl, rfl⟩
  rw [if_neg h0] at h
  cases h
def oW_p2_2 (S : OT) (id : Nat) (x : Int32) : Option OT := if id = 0 then some (S.sPlace x) else none
theorem oW_p2_2_ok : putOk oW 2 2 oW_p2_2 := by
  intro S id x S' h
  unfold oW_p2_2 at h
  by_cases h0 : id = 0
  · subst h0
    rw [if_pos rfl] at h
    cases h
    exact ⟨_, rfl, Nat.le_of_ble_eq_true rfl, rfl⟩
  rw [if_neg h0] at h
  cases h
def oW_p2_3 (S : OT) (id : Nat) (x : Int32) : Option OT := if id = 0 then some (S.sBehind x) else none
theorem oW_p2_3_ok : putOk oW 2 3 oW_p2_3 := by
  intro S id x S' h
  unfold oW_p2_3 at h
  by_cases h0 : id = 0
  · subst h0
    rw [if_pos rfl] at h
    cases h
    exact ⟨_, rfl, Nat.le_of_ble_eq_true rfl, rfl⟩
  rw [if_neg h0] at h
  cases h
def oW_p2_4 (S : OT) (id : Nat) (x : Int32) : Option OT := if id = 0 then some (S.sDone x) else none
theorem oW_p2_4_ok : putOk oW 2 4 oW_p2_4 := by
  intro S id x S' h
  unfold oW_p2_4 at h
  by_cases h0 : id = 0
  · subst h0
    rw [if_pos rfl] at h
    cases h
    exact ⟨_, rfl, Nat.le_of_ble_eq_true rfl, rfl⟩
  rw [if_neg h0] at h
  cases h
def oW_p2_5 (S : OT) (id : Nat) (x : Int32) : Option OT := if id = 0 then some (S.sLetter x) else none
theorem oW_p2_5_ok : putOk oW 2 5 oW_p2_5 := by
  intro S id x S' h
  unfold oW_p2_5 at h
  by_cases h0 : id = 0
  · subst h0
    rw [if_pos rfl] at h
    cases h
    exact ⟨_, rfl, Nat.le_of_ble_eq_true rfl, rfl⟩
  rw [if_neg h0] at h
  cases h
def oW_p2_6 (S : OT) (id : Nat) (x : Int32) : Option OT := if id = 0 then some (S.sNumber x) else none
theorem oW_p2_6_ok : putOk oW 2 6 oW_p2_6 := by
  intro S id x S' h
  unfold oW_p2_6 at h
  by_cases h0 : id = 0
  · subst h0
    rw [if_pos rfl] at h
    cases h
    exact ⟨_, rfl, Nat.le_of_ble_eq_true rfl, rfl⟩
  rw [if_neg h0] at h
  cases h
set_option maxRecDepth 100000 in
theorem oW_P : (∀ (S : OT) (x : Int32), oW_p2_1 S 0 x = some (S.sLength x)) ∧
  (∀ (S : OT) (x : Int32), oW_p2_2 S 0 x = some (S.sPlace x)) ∧
  (∀ (S : OT) (x : Int32), oW_p2_3 S 0 x = some (S.sBehind x)) ∧
  (∀ (S : OT) (x : Int32), oW_p2_4 S 0 x = some (S.sDone x)) ∧
  (∀ (S : OT) (x : Int32), oW_p2_5 S 0 x = some (S.sLetter x)) ∧
  (∀ (S : OT) (x : Int32), oW_p2_6 S 0 x = some (S.sNumber x)) := by
  repeat' apply And.intro
  all_goals (intro S x; rfl)
set_option maxRecDepth 100000 in
theorem pW_F : (∀ S : PT, getF (pW S) 3 0 0 = some (.ref 1)) ∧
  (∀ S : PT, getF (pW S) 3 0 1 = some (.ref 2)) ∧
  (∀ S : PT, getF (pW S) 3 0 2 = some (.ref 3)) ∧
  (∀ S : PT, getF (pW S) 3 0 3 = some (.ref 4)) ∧
  (∀ S : PT, getF (pW S) 3 0 4 = some (.ref 5)) ∧
  (∀ S : PT, getF (pW S) 3 0 5 = some (.ref 6)) ∧
  (∀ S : PT, getF (pW S) 3 0 6 = some (.ref 7)) ∧
  (∀ S : PT, getF (pW S) 3 0 7 = some (.ref 8)) ∧
  (∀ S : PT, getF (pW S) 3 0 8 = some (.int S.size)) ∧
  (∀ S : PT, getF (pW S) 3 0 9 = some (.int S.vrb)) := by
  repeat' apply And.intro
  all_goals (intro S; rfl)
set_option maxRecDepth 100000 in
theorem pW_A : (∀ S : PT, getA (pW S) 1 = some (0, 6, S.kinds)) ∧
  (∀ S : PT, getA (pW S) 2 = some (0, 6, S.shutoffs)) ∧
  (∀ S : PT, getA (pW S) 3 = some (0, 6, S.steeps)) ∧
  (∀ S : PT, getA (pW S) 4 = some (1, 6, S.inService)) ∧
  (∀ S : PT, getA (pW S) 5 = some (0, 6, S.speeds)) ∧
  (∀ S : PT, getA (pW S) 6 = some (0, 6, S.minutes)) ∧
  (∀ S : PT, getA (pW S) 7 = some (0, 6, S.since)) ∧
  (∀ S : PT, getA (pW S) 8 = some (0, 6, S.starts)) := by
  repeat' apply And.intro
  all_goals (intro S; rfl)
def pW_sa (S : PT) (id : Nat) (g : Nat → Int32) : Option PT := if id = 1 then some (S.sKinds g) else if id = 2 then some (S.sShutoffs g) else if id = 3 then some (S.sSteeps g) else if id = 4 then some (S.sInService g) else if id = 5 then some (S.sSpeeds g) else if id = 6 then some (S.sMinutes g) else if id = 7 then some (S.sSince g) else if id = 8 then some (S.sStarts g) else none
theorem pW_sar : sarOk pW pW_sa := by
  intro S id g S' t n f h hA
  unfold pW_sa at h
  by_cases h1 : id = 1
  · subst h1
    rw [if_pos rfl] at h
    cases h
    cases hA
    rfl
  rw [if_neg h1] at h
  by_cases h2 : id = 2
  · subst h2
    rw [if_pos rfl] at h
    cases h
    cases hA
    rfl
  rw [if_neg h2] at h
  by_cases h3 : id = 3
  · subst h3
    rw [if_pos rfl] at h
    cases h
    cases hA
    rfl
  rw [if_neg h3] at h
  by_cases h4 : id = 4
  · subst h4
    rw [if_pos rfl] at h
    cases h
    cases hA
    rfl
  rw [if_neg h4] at h
  by_cases h5 : id = 5
  · subst h5
    rw [if_pos rfl] at h
    cases h
    cases hA
    rfl
  rw [if_neg h5] at h
  by_cases h6 : id = 6
  · subst h6
    rw [if_pos rfl] at h
    cases h
    cases hA
    rfl
  rw [if_neg h6] at h
  by_cases h7 : id = 7
  · subst h7
    rw [if_pos rfl] at h
    cases h
    cases hA
    rfl
  rw [if_neg h7] at h
  by_cases h8 : id = 8
  · subst h8
    rw [if_pos rfl] at h
    cases h
    cases hA
    rfl
  rw [if_neg h8] at h
  cases h
set_option maxRecDepth 100000 in
theorem pW_S : (∀ (S : PT) (g : Nat → Int32), pW_sa S 1 g = some (S.sKinds g)) ∧
  (∀ (S : PT) (g : Nat → Int32), pW_sa S 2 g = some (S.sShutoffs g)) ∧
  (∀ (S : PT) (g : Nat → Int32), pW_sa S 3 g = some (S.sSteeps g)) ∧
  (∀ (S : PT) (g : Nat → Int32), pW_sa S 4 g = some (S.sInService g)) ∧
  (∀ (S : PT) (g : Nat → Int32), pW_sa S 5 g = some (S.sSpeeds g)) ∧
  (∀ (S : PT) (g : Nat → Int32), pW_sa S 6 g = some (S.sMinutes g)) ∧
  (∀ (S : PT) (g : Nat → Int32), pW_sa S 7 g = some (S.sSince g)) ∧
  (∀ (S : PT) (g : Nat → Int32), pW_sa S 8 g = some (S.sStarts g)) := by
  repeat' apply And.intro
  all_goals (intro S g; rfl)
def pW_p3_8 (S : PT) (id : Nat) (x : Int32) : Option PT := if id = 0 then some (S.sSize x) else none
theorem pW_p3_8_ok : putOk pW 3 8 pW_p3_8 := by
  intro S id x S' h
  unfold pW_p3_8 at h
  by_cases h0 : id = 0
  · subst h0
    rw [if_pos rfl] at h
    cases h
    exact ⟨_, rfl, Nat.le_of_ble_eq_true rfl, rfl⟩
  rw [if_neg h0] at h
  cases h
def pW_p3_9 (S : PT) (id : Nat) (x : Int32) : Option PT := if id = 0 then some (S.sVrb x) else none
theorem pW_p3_9_ok : putOk pW 3 9 pW_p3_9 := by
  intro S id x S' h
  unfold pW_p3_9 at h
  by_cases h0 : id = 0
  · subst h0
    rw [if_pos rfl] at h
    cases h
    exact ⟨_, rfl, Nat.le_of_ble_eq_true rfl, rfl⟩
  rw [if_neg h0] at h
  cases h
set_option maxRecDepth 100000 in
theorem pW_P : (∀ (S : PT) (x : Int32), pW_p3_8 S 0 x = some (S.sSize x)) ∧
  (∀ (S : PT) (x : Int32), pW_p3_9 S 0 x = some (S.sVrb x)) := by
  repeat' apply And.intro
  all_goals (intro S x; rfl)
set_option maxRecDepth 100000 in
theorem zW_F : (∀ S : ZT, getF (zW S) 5 0 0 = some (.ref 1)) ∧
  (∀ S : ZT, getF (zW S) 5 0 1 = some (.ref 2)) ∧
  (∀ S : ZT, getF (zW S) 5 0 2 = some (.int S.size)) ∧
  (∀ S : ZT, getF (zW S) 5 0 3 = some (.ref 3)) ∧
  (∀ S : ZT, getF (zW S) 5 0 4 = some (.ref 4)) ∧
  (∀ S : ZT, getF (zW S) 5 0 5 = some (.ref 5)) ∧
  (∀ S : ZT, getF (zW S) 5 0 6 = some (.int S.programmes)) := by
  repeat' apply And.intro
  all_goals (intro S; rfl)
set_option maxRecDepth 100000 in
theorem zW_A : (∀ S : ZT, getA (zW S) 1 = some (0, 8, S.demands)) ∧
  (∀ S : ZT, getA (zW S) 2 = some (1, 8, S.isOpen)) ∧
  (∀ S : ZT, getA (zW S) 3 = some (0, 8, S.pzones)) ∧
  (∀ S : ZT, getA (zW S) 4 = some (0, 8, S.opening)) ∧
  (∀ S : ZT, getA (zW S) 5 = some (0, 8, S.closing)) := by
  repeat' apply And.intro
  all_goals (intro S; rfl)
def zW_sa (S : ZT) (id : Nat) (g : Nat → Int32) : Option ZT := if id = 1 then some (S.sDemands g) else if id = 2 then some (S.sIsOpen g) else if id = 3 then some (S.sPzones g) else if id = 4 then some (S.sOpening g) else if id = 5 then some (S.sClosing g) else none
theorem zW_sar : sarOk zW zW_sa := by
  intro S id g S' t n f h hA
  unfold zW_sa at h
  by_cases h1 : id = 1
  · subst h1
    rw [if_pos rfl] at h
    cases h
    cases hA
    rfl
  rw [if_neg h1] at h
  by_cases h2 : id = 2
  · subst h2
    rw [if_pos rfl] at h
    cases h
    cases hA
    rfl
  rw [if_neg h2] at h
  by_cases h3 : id = 3
  · subst h3
    rw [if_pos rfl] at h
    cases h
    cases hA
    rfl
  rw [if_neg h3] at h
  by_cases h4 : id = 4
  · subst h4
    rw [if_pos rfl] at h
    cases h
    cases hA
    rfl
  rw [if_neg h4] at h
  by_cases h5 : id = 5
  · subst h5
    rw [if_pos rfl] at h
    cases h
    cases hA
    rfl
  rw [if_neg h5] at h
  cases h
set_option maxRecDepth 100000 in
theorem zW_S : (∀ (S : ZT) (g : Nat → Int32), zW_sa S 1 g = some (S.sDemands g)) ∧
  (∀ (S : ZT) (g : Nat → Int32), zW_sa S 2 g = some (S.sIsOpen g)) ∧
  (∀ (S : ZT) (g : Nat → Int32), zW_sa S 3 g = some (S.sPzones g)) ∧
  (∀ (S : ZT) (g : Nat → Int32), zW_sa S 4 g = some (S.sOpening g)) ∧
  (∀ (S : ZT) (g : Nat → Int32), zW_sa S 5 g = some (S.sClosing g)) := by
  repeat' apply And.intro
  all_goals (intro S g; rfl)
def zW_p5_2 (S : ZT) (id : Nat) (x : Int32) : Option ZT := if id = 0 then some (S.sSize x) else none
theorem zW_p5_2_ok : putOk zW 5 2 zW_p5_2 := by
  intro S id x S' h
  unfold zW_p5_2 at h
  by_cases h0 : id = 0
  · subst h0
    rw [if_pos rfl] at h
    cases h
    exact ⟨_, rfl, Nat.le_of_ble_eq_true rfl, rfl⟩
  rw [if_neg h0] at h
  cases h
def zW_p5_6 (S : ZT) (id : Nat) (x : Int32) : Option ZT := if id = 0 then some (S.sProgrammes x) else none
theorem zW_p5_6_ok : putOk zW 5 6 zW_p5_6 := by
  intro S id x S' h
  unfold zW_p5_6 at h
  by_cases h0 : id = 0
  · subst h0
    rw [if_pos rfl] at h
    cases h
    exact ⟨_, rfl, Nat.le_of_ble_eq_true rfl, rfl⟩
  rw [if_neg h0] at h
  cases h
set_option maxRecDepth 100000 in
theorem zW_P : (∀ (S : ZT) (x : Int32), zW_p5_2 S 0 x = some (S.sSize x)) ∧
  (∀ (S : ZT) (x : Int32), zW_p5_6 S 0 x = some (S.sProgrammes x)) := by
  repeat' apply And.intro
  all_goals (intro S x; rfl)
set_option maxRecDepth 100000 in
theorem stW_F : (∀ S : ST, getF (stW S) 4 0 0 = some (.ref 1)) ∧
  (∀ S : ST, getF (stW S) 4 0 1 = some (.ref 2)) ∧
  (∀ S : ST, getF (stW S) 4 0 2 = some (.ref 11)) ∧
  (∀ S : ST, getF (stW S) 4 0 3 = some (.ref 17)) ∧
  (∀ S : ST, getF (stW S) 4 0 4 = some (.ref 19)) ∧
  (∀ S : ST, getF (stW S) 4 0 5 = some (.int S.time)) ∧
  (∀ S : ST, getF (stW S) 4 0 6 = some (.int S.pressure)) ∧
  (∀ S : ST, getF (stW S) 4 0 7 = some (.int S.level)) ∧
  (∀ S : ST, getF (stW S) 4 0 8 = some (.int S.leak)) ∧
  (∀ S : ST, getF (stW S) 4 0 9 = some (.int S.supply)) ∧
  (∀ S : ST, getF (stW S) 4 0 10 = some (.int S.allSupplied)) ∧
  (∀ S : ST, getF (stW S) 4 0 11 = some (.int S.dry)) ∧
  (∀ S : ST, getF (stW S) 4 0 12 = some (.int S.dryMinutes)) ∧
  (∀ S : ST, getF (stW S) 4 0 13 = some (.int S.trips)) ∧
  (∀ S : ST, getF (stW S) 4 0 14 = some (.int S.toStart)) ∧
  (∀ S : ST, getF (stW S) 4 0 15 = some (.int S.toStop)) ∧
  (∀ S : ST, getF (stW S) 4 0 16 = some (.int S.toSleep)) ∧
  (∀ S : ST, getF (stW S) 3 2 0 = some (.ref 3)) ∧
  (∀ S : ST, getF (stW S) 3 2 1 = some (.ref 4)) ∧
  (∀ S : ST, getF (stW S) 3 2 2 = some (.ref 5)) ∧
  (∀ S : ST, getF (stW S) 3 2 3 = some (.ref 6)) ∧
  (∀ S : ST, getF (stW S) 3 2 4 = some (.ref 7)) ∧
  (∀ S : ST, getF (stW S) 3 2 5 = some (.ref 8)) ∧
  (∀ S : ST, getF (stW S) 3 2 6 = some (.ref 9)) ∧
  (∀ S : ST, getF (stW S) 3 2 7 = some (.ref 10)) ∧
  (∀ S : ST, getF (stW S) 3 2 8 = some (.int S.P.size)) ∧
  (∀ S : ST, getF (stW S) 3 2 9 = some (.int S.P.vrb)) ∧
  (∀ S : ST, getF (stW S) 5 11 0 = some (.ref 12)) ∧
  (∀ S : ST, getF (stW S) 5 11 1 = some (.ref 13)) ∧
  (∀ S : ST, getF (stW S) 5 11 2 = some (.int S.Z.size)) ∧
  (∀ S : ST, getF (stW S) 5 11 3 = some (.ref 14)) ∧
  (∀ S : ST, getF (stW S) 5 11 4 = some (.ref 15)) ∧
  (∀ S : ST, getF (stW S) 5 11 5 = some (.ref 16)) ∧
  (∀ S : ST, getF (stW S) 5 11 6 = some (.int S.Z.programmes)) ∧
  (∀ S : ST, getF (stW S) 1 17 0 = some (.ref 18)) ∧
  (∀ S : ST, getF (stW S) 1 17 1 = some (.int S.N.size)) ∧
  (∀ S : ST, getF (stW S) 1 17 2 = some (.int S.N.flow)) ∧
  (∀ S : ST, getF (stW S) 1 17 3 = some (.int S.N.alarms)) ∧
  (∀ S : ST, getF (stW S) 0 19 0 = some (.ref 20)) ∧
  (∀ S : ST, getF (stW S) 0 19 1 = some (.ref 21)) ∧
  (∀ S : ST, getF (stW S) 0 19 2 = some (.ref 22)) ∧
  (∀ S : ST, getF (stW S) 0 19 3 = some (.ref 23)) ∧
  (∀ S : ST, getF (stW S) 0 19 4 = some (.int S.E.all)) := by
  repeat' apply And.intro
  all_goals (intro S; rfl)
set_option maxRecDepth 100000 in
theorem stW_A : (∀ S : ST, getA (stW S) 1 = some (0, 19, S.settings)) ∧
  (∀ S : ST, getA (stW S) 3 = some (0, 6, S.P.kinds)) ∧
  (∀ S : ST, getA (stW S) 4 = some (0, 6, S.P.shutoffs)) ∧
  (∀ S : ST, getA (stW S) 5 = some (0, 6, S.P.steeps)) ∧
  (∀ S : ST, getA (stW S) 6 = some (1, 6, S.P.inService)) ∧
  (∀ S : ST, getA (stW S) 7 = some (0, 6, S.P.speeds)) ∧
  (∀ S : ST, getA (stW S) 8 = some (0, 6, S.P.minutes)) ∧
  (∀ S : ST, getA (stW S) 9 = some (0, 6, S.P.since)) ∧
  (∀ S : ST, getA (stW S) 10 = some (0, 6, S.P.starts)) ∧
  (∀ S : ST, getA (stW S) 12 = some (0, 8, S.Z.demands)) ∧
  (∀ S : ST, getA (stW S) 13 = some (1, 8, S.Z.isOpen)) ∧
  (∀ S : ST, getA (stW S) 14 = some (0, 8, S.Z.pzones)) ∧
  (∀ S : ST, getA (stW S) 15 = some (0, 8, S.Z.opening)) ∧
  (∀ S : ST, getA (stW S) 16 = some (0, 8, S.Z.closing)) ∧
  (∀ S : ST, getA (stW S) 18 = some (0, 7, S.N.noted)) ∧
  (∀ S : ST, getA (stW S) 20 = some (0, 12, S.E.kinds)) ∧
  (∀ S : ST, getA (stW S) 21 = some (0, 12, S.E.times)) ∧
  (∀ S : ST, getA (stW S) 22 = some (0, 12, S.E.pumps)) ∧
  (∀ S : ST, getA (stW S) 23 = some (0, 8, S.E.latest)) := by
  repeat' apply And.intro
  all_goals (intro S; rfl)
def stW_sa (S : ST) (id : Nat) (g : Nat → Int32) : Option ST := if id = 1 then some (S.sSettings g) else if id = 3 then some (S.sP (S.P.sKinds g)) else if id = 4 then some (S.sP (S.P.sShutoffs g)) else if id = 5 then some (S.sP (S.P.sSteeps g)) else if id = 6 then some (S.sP (S.P.sInService g)) else if id = 7 then some (S.sP (S.P.sSpeeds g)) else if id = 8 then some (S.sP (S.P.sMinutes g)) else if id = 9 then some (S.sP (S.P.sSince g)) else if id = 10 then some (S.sP (S.P.sStarts g)) else if id = 12 then some (S.sZ (S.Z.sDemands g)) else if id = 13 then some (S.sZ (S.Z.sIsOpen g)) else if id = 14 then some (S.sZ (S.Z.sPzones g)) else if id = 15 then some (S.sZ (S.Z.sOpening g)) else if id = 16 then some (S.sZ (S.Z.sClosing g)) else if id = 18 then some (S.sN (S.N.sNoted g)) else if id = 20 then some (S.sE (S.E.sKinds g)) else if id = 21 then some (S.sE (S.E.sTimes g)) else if id = 22 then some (S.sE (S.E.sPumps g)) else if id = 23 then some (S.sE (S.E.sLatest g)) else none
theorem stW_sar : sarOk stW stW_sa := by
  intro S id g S' t n f h hA
  unfold stW_sa at h
  by_cases h1 : id = 1
  · subst h1
    rw [if_pos rfl] at h
    cases h
    cases hA
    rfl
  rw [if_neg h1] at h
  by_cases h3 : id = 3
  · subst h3
    rw [if_pos rfl] at h
    cases h
    cases hA
    rfl
  rw [if_neg h3] at h
  by_cases h4 : id = 4
  · subst h4
    rw [if_pos rfl] at h
    cases h
    cases hA
    rfl
  rw [if_neg h4] at h
  by_cases h5 : id = 5
  · subst h5
    rw [if_pos rfl] at h
    cases h
    cases hA
    rfl
  rw [if_neg h5] at h
  by_cases h6 : id = 6
  · subst h6
    rw [if_pos rfl] at h
    cases h
    cases hA
    rfl
  rw [if_neg h6] at h
  by_cases h7 : id = 7
  · subst h7
    rw [if_pos rfl] at h
    cases h
    cases hA
    rfl
  rw [if_neg h7] at h
  by_cases h8 : id = 8
  · subst h8
    rw [if_pos rfl] at h
    cases h
    cases hA
    rfl
  rw [if_neg h8] at h
  by_cases h9 : id = 9
  · subst h9
    rw [if_pos rfl] at h
    cases h
    cases hA
    rfl
  rw [if_neg h9] at h
  by_cases h10 : id = 10
  · subst h10
    rw [if_pos rfl] at h
    cases h
    cases hA
    rfl
  rw [if_neg h10] at h
  by_cases h12 : id = 12
  · subst h12
    rw [if_pos rfl] at h
    cases h
    cases hA
    rfl
  rw [if_neg h12] at h
  by_cases h13 : id = 13
  · subst h13
    rw [if_pos rfl] at h
    cases h
    cases hA
    rfl
  rw [if_neg h13] at h
  by_cases h14 : id = 14
  · subst h14
    rw [if_pos rfl] at h
    cases h
    cases hA
    rfl
  rw [if_neg h14] at h
  by_cases h15 : id = 15
  · subst h15
    rw [if_pos rfl] at h
    cases h
    cases hA
    rfl
  rw [if_neg h15] at h
  by_cases h16 : id = 16
  · subst h16
    rw [if_pos rfl] at h
    cases h
    cases hA
    rfl
  rw [if_neg h16] at h
  by_cases h18 : id = 18
  · subst h18
    rw [if_pos rfl] at h
    cases h
    cases hA
    rfl
  rw [if_neg h18] at h
  by_cases h20 : id = 20
  · subst h20
    rw [if_pos rfl] at h
    cases h
    cases hA
    rfl
  rw [if_neg h20] at h
  by_cases h21 : id = 21
  · subst h21
    rw [if_pos rfl] at h
    cases h
    cases hA
    rfl
  rw [if_neg h21] at h
  by_cases h22 : id = 22
  · subst h22
    rw [if_pos rfl] at h
    cases h
    cases hA
    rfl
  rw [if_neg h22] at h
  by_cases h23 : id = 23
  · subst h23
    rw [if_pos rfl] at h
    cases h
    cases hA
    rfl
  rw [if_neg h23] at h
  cases h
set_option maxRecDepth 100000 in
theorem stW_S : (∀ (S : ST) (g : Nat → Int32), stW_sa S 1 g = some (S.sSettings g)) ∧
  (∀ (S : ST) (g : Nat → Int32), stW_sa S 3 g = some (S.sP (S.P.sKinds g))) ∧
  (∀ (S : ST) (g : Nat → Int32), stW_sa S 4 g = some (S.sP (S.P.sShutoffs g))) ∧
  (∀ (S : ST) (g : Nat → Int32), stW_sa S 5 g = some (S.sP (S.P.sSteeps g))) ∧
  (∀ (S : ST) (g : Nat → Int32), stW_sa S 6 g = some (S.sP (S.P.sInService g))) ∧
  (∀ (S : ST) (g : Nat → Int32), stW_sa S 7 g = some (S.sP (S.P.sSpeeds g))) ∧
  (∀ (S : ST) (g : Nat → Int32), stW_sa S 8 g = some (S.sP (S.P.sMinutes g))) ∧
  (∀ (S : ST) (g : Nat → Int32), stW_sa S 9 g = some (S.sP (S.P.sSince g))) ∧
  (∀ (S : ST) (g : Nat → Int32), stW_sa S 10 g = some (S.sP (S.P.sStarts g))) ∧
  (∀ (S : ST) (g : Nat → Int32), stW_sa S 12 g = some (S.sZ (S.Z.sDemands g))) ∧
  (∀ (S : ST) (g : Nat → Int32), stW_sa S 13 g = some (S.sZ (S.Z.sIsOpen g))) ∧
  (∀ (S : ST) (g : Nat → Int32), stW_sa S 14 g = some (S.sZ (S.Z.sPzones g))) ∧
  (∀ (S : ST) (g : Nat → Int32), stW_sa S 15 g = some (S.sZ (S.Z.sOpening g))) ∧
  (∀ (S : ST) (g : Nat → Int32), stW_sa S 16 g = some (S.sZ (S.Z.sClosing g))) ∧
  (∀ (S : ST) (g : Nat → Int32), stW_sa S 18 g = some (S.sN (S.N.sNoted g))) ∧
  (∀ (S : ST) (g : Nat → Int32), stW_sa S 20 g = some (S.sE (S.E.sKinds g))) ∧
  (∀ (S : ST) (g : Nat → Int32), stW_sa S 21 g = some (S.sE (S.E.sTimes g))) ∧
  (∀ (S : ST) (g : Nat → Int32), stW_sa S 22 g = some (S.sE (S.E.sPumps g))) ∧
  (∀ (S : ST) (g : Nat → Int32), stW_sa S 23 g = some (S.sE (S.E.sLatest g))) := by
  repeat' apply And.intro
  all_goals (intro S g; rfl)
def stW_p0_4 (S : ST) (id : Nat) (x : Int32) : Option ST := if id = 19 then some (S.sE (S.E.sAll x)) else none
theorem stW_p0_4_ok : putOk stW 0 4 stW_p0_4 := by
  intro S id x S' h
  unfold stW_p0_4 at h
  by_cases h19 : id = 19
  · subst h19
    rw [if_pos rfl] at h
    cases h
    exact ⟨_, rfl, Nat.le_of_ble_eq_true rfl, rfl⟩
  rw [if_neg h19] at h
  cases h
def stW_p1_1 (S : ST) (id : Nat) (x : Int32) : Option ST := if id = 17 then some (S.sN (S.N.sSize x)) else none
theorem stW_p1_1_ok : putOk stW 1 1 stW_p1_1 := by
  intro S id x S' h
  unfold stW_p1_1 at h
  by_cases h17 : id = 17
  · subst h17
    rw [if_pos rfl] at h
    cases h
    exact ⟨_, rfl, Nat.le_of_ble_eq_true rfl, rfl⟩
  rw [if_neg h17] at h
  cases h
def stW_p1_2 (S : ST) (id : Nat) (x : Int32) : Option ST := if id = 17 then some (S.sN (S.N.sFlow x)) else none
theorem stW_p1_2_ok : putOk stW 1 2 stW_p1_2 := by
  intro S id x S' h
  unfold stW_p1_2 at h
  by_cases h17 : id = 17
  · subst h17
    rw [if_pos rfl] at h
    cases h
    exact ⟨_, rfl, Nat.le_of_ble_eq_true rfl, rfl⟩
  rw [if_neg h17] at h
  cases h
def stW_p1_3 (S : ST) (id : Nat) (x : Int32) : Option ST := if id = 17 then some (S.sN (S.N.sAlarms x)) else none
theorem stW_p1_3_ok : putOk stW 1 3 stW_p1_3 := by
  intro S id x S' h
  unfold stW_p1_3 at h
  by_cases h17 : id = 17
  · subst h17
    rw [if_pos rfl] at h
    cases h
    exact ⟨_, rfl, Nat.le_of_ble_eq_true rfl, rfl⟩
  rw [if_neg h17] at h
  cases h
def stW_p3_8 (S : ST) (id : Nat) (x : Int32) : Option ST := if id = 2 then some (S.sP (S.P.sSize x)) else none
theorem stW_p3_8_ok : putOk stW 3 8 stW_p3_8 := by
  intro S id x S' h
  unfold stW_p3_8 at h
  by_cases h2 : id = 2
  · subst h2
    rw [if_pos rfl] at h
    cases h
    exact ⟨_, rfl, Nat.le_of_ble_eq_true rfl, rfl⟩
  rw [if_neg h2] at h
  cases h
def stW_p3_9 (S : ST) (id : Nat) (x : Int32) : Option ST := if id = 2 then some (S.sP (S.P.sVrb x)) else none
theorem stW_p3_9_ok : putOk stW 3 9 stW_p3_9 := by
  intro S id x S' h
  unfold stW_p3_9 at h
  by_cases h2 : id = 2
  · subst h2
    rw [if_pos rfl] at h
    cases h
    exact ⟨_, rfl, Nat.le_of_ble_eq_true rfl, rfl⟩
  rw [if_neg h2] at h
  cases h
def stW_p4_5 (S : ST) (id : Nat) (x : Int32) : Option ST := if id = 0 then some (S.sTime x) else none
theorem stW_p4_5_ok : putOk stW 4 5 stW_p4_5 := by
  intro S id x S' h
  unfold stW_p4_5 at h
  by_cases h0 : id = 0
  · subst h0
    rw [if_pos rfl] at h
    cases h
    exact ⟨_, rfl, Nat.le_of_ble_eq_true rfl, rfl⟩
  rw [if_neg h0] at h
  cases h
def stW_p4_6 (S : ST) (id : Nat) (x : Int32) : Option ST := if id = 0 then some (S.sPressure x) else none
theorem stW_p4_6_ok : putOk stW 4 6 stW_p4_6 := by
  intro S id x S' h
  unfold stW_p4_6 at h
  by_cases h0 : id = 0
  · subst h0
    rw [if_pos rfl] at h
    cases h
    exact ⟨_, rfl, Nat.le_of_ble_eq_true rfl, rfl⟩
  rw [if_neg h0] at h
  cases h
def stW_p4_7 (S : ST) (id : Nat) (x : Int32) : Option ST := if id = 0 then some (S.sLevel x) else none
theorem stW_p4_7_ok : putOk stW 4 7 stW_p4_7 := by
  intro S id x S' h
  unfold stW_p4_7 at h
  by_cases h0 : id = 0
  · subst h0
    rw [if_pos rfl] at h
    cases h
    exact ⟨_, rfl, Nat.le_of_ble_eq_true rfl, rfl⟩
  rw [if_neg h0] at h
  cases h
def stW_p4_8 (S : ST) (id : Nat) (x : Int32) : Option ST := if id = 0 then some (S.sLeak x) else none
theorem stW_p4_8_ok : putOk stW 4 8 stW_p4_8 := by
  intro S id x S' h
  unfold stW_p4_8 at h
  by_cases h0 : id = 0
  · subst h0
    rw [if_pos rfl] at h
    cases h
    exact ⟨_, rfl, Nat.le_of_ble_eq_true rfl, rfl⟩
  rw [if_neg h0] at h
  cases h
def stW_p4_9 (S : ST) (id : Nat) (x : Int32) : Option ST := if id = 0 then some (S.sSupply x) else none
theorem stW_p4_9_ok : putOk stW 4 9 stW_p4_9 := by
  intro S id x S' h
  unfold stW_p4_9 at h
  by_cases h0 : id = 0
  · subst h0
    rw [if_pos rfl] at h
    cases h
    exact ⟨_, rfl, Nat.le_of_ble_eq_true rfl, rfl⟩
  rw [if_neg h0] at h
  cases h
def stW_p4_10 (S : ST) (id : Nat) (x : Int32) : Option ST := if id = 0 then some (S.sAllSupplied x) else none
theorem stW_p4_10_ok : putOk stW 4 10 stW_p4_10 := by
  intro S id x S' h
  unfold stW_p4_10 at h
  by_cases h0 : id = 0
  · subst h0
    rw [if_pos rfl] at h
    cases h
    exact ⟨_, rfl, Nat.le_of_ble_eq_true rfl, rfl⟩
  rw [if_neg h0] at h
  cases h
def stW_p4_11 (S : ST) (id : Nat) (x : Int32) : Option ST := if id = 0 then some (S.sDry x) else none
theorem stW_p4_11_ok : putOk stW 4 11 stW_p4_11 := by
  intro S id x S' h
  unfold stW_p4_11 at h
  by_cases h0 : id = 0
  · subst h0
    rw [if_pos rfl] at h
    cases h
    exact ⟨_, rfl, Nat.le_of_ble_eq_true rfl, rfl⟩
  rw [if_neg h0] at h
  cases h
def stW_p4_12 (S : ST) (id : Nat) (x : Int32) : Option ST := if id = 0 then some (S.sDryMinutes x) else none
theorem stW_p4_12_ok : putOk stW 4 12 stW_p4_12 := by
  intro S id x S' h
  unfold stW_p4_12 at h
  by_cases h0 : id = 0
  · subst h0
    rw [if_pos rfl] at h
    cases h
    exact ⟨_, rfl, Nat.le_of_ble_eq_true rfl, rfl⟩
  rw [if_neg h0] at h
  cases h
def stW_p4_13 (S : ST) (id : Nat) (x : Int32) : Option ST := if id = 0 then some (S.sTrips x) else none
theorem stW_p4_13_ok : putOk stW 4 13 stW_p4_13 := by
  intro S id x S' h
  unfold stW_p4_13 at h
  by_cases h0 : id = 0
  · subst h0
    rw [if_pos rfl] at h
    cases h
    exact ⟨_, rfl, Nat.le_of_ble_eq_true rfl, rfl⟩
  rw [if_neg h0] at h
  cases h
def stW_p4_14 (S : ST) (id : Nat) (x : Int32) : Option ST := if id = 0 then some (S.sToStart x) else none
theorem stW_p4_14_ok : putOk stW 4 14 stW_p4_14 := by
  intro S id x S' h
  unfold stW_p4_14 at h
  by_cases h0 : id = 0
  · subst h0
    rw [if_pos rfl] at h
    cases h
    exact ⟨_, rfl, Nat.le_of_ble_eq_true rfl, rfl⟩
  rw [if_neg h0] at h
  cases h
def stW_p4_15 (S : ST) (id : Nat) (x : Int32) : Option ST := if id = 0 then some (S.sToStop x) else none
theorem stW_p4_15_ok : putOk stW 4 15 stW_p4_15 := by
  intro S id x S' h
  unfold stW_p4_15 at h
  by_cases h0 : id = 0
  · subst h0
    rw [if_pos rfl] at h
    cases h
    exact ⟨_, rfl, Nat.le_of_ble_eq_true rfl, rfl⟩
  rw [if_neg h0] at h
  cases h
def stW_p4_16 (S : ST) (id : Nat) (x : Int32) : Option ST := if id = 0 then some (S.sToSleep x) else none
theorem stW_p4_16_ok : putOk stW 4 16 stW_p4_16 := by
  intro S id x S' h
  unfold stW_p4_16 at h
  by_cases h0 : id = 0
  · subst h0
    rw [if_pos rfl] at h
    cases h
    exact ⟨_, rfl, Nat.le_of_ble_eq_true rfl, rfl⟩
  rw [if_neg h0] at h
  cases h
def stW_p5_2 (S : ST) (id : Nat) (x : Int32) : Option ST := if id = 11 then some (S.sZ (S.Z.sSize x)) else none
theorem stW_p5_2_ok : putOk stW 5 2 stW_p5_2 := by
  intro S id x S' h
  unfold stW_p5_2 at h
  by_cases h11 : id = 11
  · subst h11
    rw [if_pos rfl] at h
    cases h
    exact ⟨_, rfl, Nat.le_of_ble_eq_true rfl, rfl⟩
  rw [if_neg h11] at h
  cases h
def stW_p5_6 (S : ST) (id : Nat) (x : Int32) : Option ST := if id = 11 then some (S.sZ (S.Z.sProgrammes x)) else none
theorem stW_p5_6_ok : putOk stW 5 6 stW_p5_6 := by
  intro S id x S' h
  unfold stW_p5_6 at h
  by_cases h11 : id = 11
  · subst h11
    rw [if_pos rfl] at h
    cases h
    exact ⟨_, rfl, Nat.le_of_ble_eq_true rfl, rfl⟩
  rw [if_neg h11] at h
  cases h
set_option maxRecDepth 100000 in
theorem stW_P : (∀ (S : ST) (x : Int32), stW_p0_4 S 19 x = some (S.sE (S.E.sAll x))) ∧
  (∀ (S : ST) (x : Int32), stW_p1_1 S 17 x = some (S.sN (S.N.sSize x))) ∧
  (∀ (S : ST) (x : Int32), stW_p1_2 S 17 x = some (S.sN (S.N.sFlow x))) ∧
  (∀ (S : ST) (x : Int32), stW_p1_3 S 17 x = some (S.sN (S.N.sAlarms x))) ∧
  (∀ (S : ST) (x : Int32), stW_p3_8 S 2 x = some (S.sP (S.P.sSize x))) ∧
  (∀ (S : ST) (x : Int32), stW_p3_9 S 2 x = some (S.sP (S.P.sVrb x))) ∧
  (∀ (S : ST) (x : Int32), stW_p4_5 S 0 x = some (S.sTime x)) ∧
  (∀ (S : ST) (x : Int32), stW_p4_6 S 0 x = some (S.sPressure x)) ∧
  (∀ (S : ST) (x : Int32), stW_p4_7 S 0 x = some (S.sLevel x)) ∧
  (∀ (S : ST) (x : Int32), stW_p4_8 S 0 x = some (S.sLeak x)) ∧
  (∀ (S : ST) (x : Int32), stW_p4_9 S 0 x = some (S.sSupply x)) ∧
  (∀ (S : ST) (x : Int32), stW_p4_10 S 0 x = some (S.sAllSupplied x)) ∧
  (∀ (S : ST) (x : Int32), stW_p4_11 S 0 x = some (S.sDry x)) ∧
  (∀ (S : ST) (x : Int32), stW_p4_12 S 0 x = some (S.sDryMinutes x)) ∧
  (∀ (S : ST) (x : Int32), stW_p4_13 S 0 x = some (S.sTrips x)) ∧
  (∀ (S : ST) (x : Int32), stW_p4_14 S 0 x = some (S.sToStart x)) ∧
  (∀ (S : ST) (x : Int32), stW_p4_15 S 0 x = some (S.sToStop x)) ∧
  (∀ (S : ST) (x : Int32), stW_p4_16 S 0 x = some (S.sToSleep x)) ∧
  (∀ (S : ST) (x : Int32), stW_p5_2 S 11 x = some (S.sZ (S.Z.sSize x))) ∧
  (∀ (S : ST) (x : Int32), stW_p5_6 S 11 x = some (S.sZ (S.Z.sProgrammes x))) := by
  repeat' apply And.intro
  all_goals (intro S x; rfl)
set_option maxRecDepth 100000 in
theorem fpW_F : (∀ S : FT, getF (fpW S) 6 0 0 = some (.ref 1)) ∧
  (∀ S : FT, getF (fpW S) 6 0 1 = some (.ref 25)) ∧
  (∀ S : FT, getF (fpW S) 6 0 2 = some (.ref 49)) ∧
  (∀ S : FT, getF (fpW S) 6 0 3 = some (.int S.states)) ∧
  (∀ S : FT, getF (fpW S) 6 0 4 = some (.ref 50)) ∧
  (∀ S : FT, getF (fpW S) 4 1 0 = some (.ref 2)) ∧
  (∀ S : FT, getF (fpW S) 4 1 1 = some (.ref 3)) ∧
  (∀ S : FT, getF (fpW S) 4 1 2 = some (.ref 12)) ∧
  (∀ S : FT, getF (fpW S) 4 1 3 = some (.ref 18)) ∧
  (∀ S : FT, getF (fpW S) 4 1 4 = some (.ref 20)) ∧
  (∀ S : FT, getF (fpW S) 4 1 5 = some (.int S.now.time)) ∧
  (∀ S : FT, getF (fpW S) 4 1 6 = some (.int S.now.pressure)) ∧
  (∀ S : FT, getF (fpW S) 4 1 7 = some (.int S.now.level)) ∧
  (∀ S : FT, getF (fpW S) 4 1 8 = some (.int S.now.leak)) ∧
  (∀ S : FT, getF (fpW S) 4 1 9 = some (.int S.now.supply)) ∧
  (∀ S : FT, getF (fpW S) 4 1 10 = some (.int S.now.allSupplied)) ∧
  (∀ S : FT, getF (fpW S) 4 1 11 = some (.int S.now.dry)) ∧
  (∀ S : FT, getF (fpW S) 4 1 12 = some (.int S.now.dryMinutes)) ∧
  (∀ S : FT, getF (fpW S) 4 1 13 = some (.int S.now.trips)) ∧
  (∀ S : FT, getF (fpW S) 4 1 14 = some (.int S.now.toStart)) ∧
  (∀ S : FT, getF (fpW S) 4 1 15 = some (.int S.now.toStop)) ∧
  (∀ S : FT, getF (fpW S) 4 1 16 = some (.int S.now.toSleep)) ∧
  (∀ S : FT, getF (fpW S) 3 3 0 = some (.ref 4)) ∧
  (∀ S : FT, getF (fpW S) 3 3 1 = some (.ref 5)) ∧
  (∀ S : FT, getF (fpW S) 3 3 2 = some (.ref 6)) ∧
  (∀ S : FT, getF (fpW S) 3 3 3 = some (.ref 7)) ∧
  (∀ S : FT, getF (fpW S) 3 3 4 = some (.ref 8)) ∧
  (∀ S : FT, getF (fpW S) 3 3 5 = some (.ref 9)) ∧
  (∀ S : FT, getF (fpW S) 3 3 6 = some (.ref 10)) ∧
  (∀ S : FT, getF (fpW S) 3 3 7 = some (.ref 11)) ∧
  (∀ S : FT, getF (fpW S) 3 3 8 = some (.int S.now.P.size)) ∧
  (∀ S : FT, getF (fpW S) 3 3 9 = some (.int S.now.P.vrb)) ∧
  (∀ S : FT, getF (fpW S) 5 12 0 = some (.ref 13)) ∧
  (∀ S : FT, getF (fpW S) 5 12 1 = some (.ref 14)) ∧
  (∀ S : FT, getF (fpW S) 5 12 2 = some (.int S.now.Z.size)) ∧
  (∀ S : FT, getF (fpW S) 5 12 3 = some (.ref 15)) ∧
  (∀ S : FT, getF (fpW S) 5 12 4 = some (.ref 16)) ∧
  (∀ S : FT, getF (fpW S) 5 12 5 = some (.ref 17)) ∧
  (∀ S : FT, getF (fpW S) 5 12 6 = some (.int S.now.Z.programmes)) ∧
  (∀ S : FT, getF (fpW S) 1 18 0 = some (.ref 19)) ∧
  (∀ S : FT, getF (fpW S) 1 18 1 = some (.int S.now.N.size)) ∧
  (∀ S : FT, getF (fpW S) 1 18 2 = some (.int S.now.N.flow)) ∧
  (∀ S : FT, getF (fpW S) 1 18 3 = some (.int S.now.N.alarms)) ∧
  (∀ S : FT, getF (fpW S) 0 20 0 = some (.ref 21)) ∧
  (∀ S : FT, getF (fpW S) 0 20 1 = some (.ref 22)) ∧
  (∀ S : FT, getF (fpW S) 0 20 2 = some (.ref 23)) ∧
  (∀ S : FT, getF (fpW S) 0 20 3 = some (.ref 24)) ∧
  (∀ S : FT, getF (fpW S) 0 20 4 = some (.int S.now.E.all)) ∧
  (∀ S : FT, getF (fpW S) 4 25 0 = some (.ref 26)) ∧
  (∀ S : FT, getF (fpW S) 4 25 1 = some (.ref 27)) ∧
  (∀ S : FT, getF (fpW S) 4 25 2 = some (.ref 36)) ∧
  (∀ S : FT, getF (fpW S) 4 25 3 = some (.ref 42)) ∧
  (∀ S : FT, getF (fpW S) 4 25 4 = some (.ref 44)) ∧
  (∀ S : FT, getF (fpW S) 4 25 5 = some (.int S.trial.time)) ∧
  (∀ S : FT, getF (fpW S) 4 25 6 = some (.int S.trial.pressure)) ∧
  (∀ S : FT, getF (fpW S) 4 25 7 = some (.int S.trial.level)) ∧
  (∀ S : FT, getF (fpW S) 4 25 8 = some (.int S.trial.leak)) ∧
  (∀ S : FT, getF (fpW S) 4 25 9 = some (.int S.trial.supply)) ∧
  (∀ S : FT, getF (fpW S) 4 25 10 = some (.int S.trial.allSupplied)) ∧
  (∀ S : FT, getF (fpW S) 4 25 11 = some (.int S.trial.dry)) ∧
  (∀ S : FT, getF (fpW S) 4 25 12 = some (.int S.trial.dryMinutes)) ∧
  (∀ S : FT, getF (fpW S) 4 25 13 = some (.int S.trial.trips)) ∧
  (∀ S : FT, getF (fpW S) 4 25 14 = some (.int S.trial.toStart)) ∧
  (∀ S : FT, getF (fpW S) 4 25 15 = some (.int S.trial.toStop)) ∧
  (∀ S : FT, getF (fpW S) 4 25 16 = some (.int S.trial.toSleep)) ∧
  (∀ S : FT, getF (fpW S) 3 27 0 = some (.ref 28)) ∧
  (∀ S : FT, getF (fpW S) 3 27 1 = some (.ref 29)) ∧
  (∀ S : FT, getF (fpW S) 3 27 2 = some (.ref 30)) ∧
  (∀ S : FT, getF (fpW S) 3 27 3 = some (.ref 31)) ∧
  (∀ S : FT, getF (fpW S) 3 27 4 = some (.ref 32)) ∧
  (∀ S : FT, getF (fpW S) 3 27 5 = some (.ref 33)) ∧
  (∀ S : FT, getF (fpW S) 3 27 6 = some (.ref 34)) ∧
  (∀ S : FT, getF (fpW S) 3 27 7 = some (.ref 35)) ∧
  (∀ S : FT, getF (fpW S) 3 27 8 = some (.int S.trial.P.size)) ∧
  (∀ S : FT, getF (fpW S) 3 27 9 = some (.int S.trial.P.vrb)) ∧
  (∀ S : FT, getF (fpW S) 5 36 0 = some (.ref 37)) ∧
  (∀ S : FT, getF (fpW S) 5 36 1 = some (.ref 38)) ∧
  (∀ S : FT, getF (fpW S) 5 36 2 = some (.int S.trial.Z.size)) ∧
  (∀ S : FT, getF (fpW S) 5 36 3 = some (.ref 39)) ∧
  (∀ S : FT, getF (fpW S) 5 36 4 = some (.ref 40)) ∧
  (∀ S : FT, getF (fpW S) 5 36 5 = some (.ref 41)) ∧
  (∀ S : FT, getF (fpW S) 5 36 6 = some (.int S.trial.Z.programmes)) ∧
  (∀ S : FT, getF (fpW S) 1 42 0 = some (.ref 43)) ∧
  (∀ S : FT, getF (fpW S) 1 42 1 = some (.int S.trial.N.size)) ∧
  (∀ S : FT, getF (fpW S) 1 42 2 = some (.int S.trial.N.flow)) ∧
  (∀ S : FT, getF (fpW S) 1 42 3 = some (.int S.trial.N.alarms)) ∧
  (∀ S : FT, getF (fpW S) 0 44 0 = some (.ref 45)) ∧
  (∀ S : FT, getF (fpW S) 0 44 1 = some (.ref 46)) ∧
  (∀ S : FT, getF (fpW S) 0 44 2 = some (.ref 47)) ∧
  (∀ S : FT, getF (fpW S) 0 44 3 = some (.ref 48)) ∧
  (∀ S : FT, getF (fpW S) 0 44 4 = some (.int S.trial.E.all)) ∧
  (∀ S : FT, getF (fpW S) 2 50 0 = some (.ref 51)) ∧
  (∀ S : FT, getF (fpW S) 2 50 1 = some (.int S.O.length)) ∧
  (∀ S : FT, getF (fpW S) 2 50 2 = some (.int S.O.place)) ∧
  (∀ S : FT, getF (fpW S) 2 50 3 = some (.int S.O.behind)) ∧
  (∀ S : FT, getF (fpW S) 2 50 4 = some (.int S.O.done)) ∧
  (∀ S : FT, getF (fpW S) 2 50 5 = some (.int S.O.letter)) ∧
  (∀ S : FT, getF (fpW S) 2 50 6 = some (.int S.O.number)) := by
  repeat' apply And.intro
  all_goals (intro S; rfl)
set_option maxRecDepth 100000 in
theorem fpW_A : (∀ S : FT, getA (fpW S) 2 = some (0, 19, S.now.settings)) ∧
  (∀ S : FT, getA (fpW S) 4 = some (0, 6, S.now.P.kinds)) ∧
  (∀ S : FT, getA (fpW S) 5 = some (0, 6, S.now.P.shutoffs)) ∧
  (∀ S : FT, getA (fpW S) 6 = some (0, 6, S.now.P.steeps)) ∧
  (∀ S : FT, getA (fpW S) 7 = some (1, 6, S.now.P.inService)) ∧
  (∀ S : FT, getA (fpW S) 8 = some (0, 6, S.now.P.speeds)) ∧
  (∀ S : FT, getA (fpW S) 9 = some (0, 6, S.now.P.minutes)) ∧
  (∀ S : FT, getA (fpW S) 10 = some (0, 6, S.now.P.since)) ∧
  (∀ S : FT, getA (fpW S) 11 = some (0, 6, S.now.P.starts)) ∧
  (∀ S : FT, getA (fpW S) 13 = some (0, 8, S.now.Z.demands)) ∧
  (∀ S : FT, getA (fpW S) 14 = some (1, 8, S.now.Z.isOpen)) ∧
  (∀ S : FT, getA (fpW S) 15 = some (0, 8, S.now.Z.pzones)) ∧
  (∀ S : FT, getA (fpW S) 16 = some (0, 8, S.now.Z.opening)) ∧
  (∀ S : FT, getA (fpW S) 17 = some (0, 8, S.now.Z.closing)) ∧
  (∀ S : FT, getA (fpW S) 19 = some (0, 7, S.now.N.noted)) ∧
  (∀ S : FT, getA (fpW S) 21 = some (0, 12, S.now.E.kinds)) ∧
  (∀ S : FT, getA (fpW S) 22 = some (0, 12, S.now.E.times)) ∧
  (∀ S : FT, getA (fpW S) 23 = some (0, 12, S.now.E.pumps)) ∧
  (∀ S : FT, getA (fpW S) 24 = some (0, 8, S.now.E.latest)) ∧
  (∀ S : FT, getA (fpW S) 26 = some (0, 19, S.trial.settings)) ∧
  (∀ S : FT, getA (fpW S) 28 = some (0, 6, S.trial.P.kinds)) ∧
  (∀ S : FT, getA (fpW S) 29 = some (0, 6, S.trial.P.shutoffs)) ∧
  (∀ S : FT, getA (fpW S) 30 = some (0, 6, S.trial.P.steeps)) ∧
  (∀ S : FT, getA (fpW S) 31 = some (1, 6, S.trial.P.inService)) ∧
  (∀ S : FT, getA (fpW S) 32 = some (0, 6, S.trial.P.speeds)) ∧
  (∀ S : FT, getA (fpW S) 33 = some (0, 6, S.trial.P.minutes)) ∧
  (∀ S : FT, getA (fpW S) 34 = some (0, 6, S.trial.P.since)) ∧
  (∀ S : FT, getA (fpW S) 35 = some (0, 6, S.trial.P.starts)) ∧
  (∀ S : FT, getA (fpW S) 37 = some (0, 8, S.trial.Z.demands)) ∧
  (∀ S : FT, getA (fpW S) 38 = some (1, 8, S.trial.Z.isOpen)) ∧
  (∀ S : FT, getA (fpW S) 39 = some (0, 8, S.trial.Z.pzones)) ∧
  (∀ S : FT, getA (fpW S) 40 = some (0, 8, S.trial.Z.opening)) ∧
  (∀ S : FT, getA (fpW S) 41 = some (0, 8, S.trial.Z.closing)) ∧
  (∀ S : FT, getA (fpW S) 43 = some (0, 7, S.trial.N.noted)) ∧
  (∀ S : FT, getA (fpW S) 45 = some (0, 12, S.trial.E.kinds)) ∧
  (∀ S : FT, getA (fpW S) 46 = some (0, 12, S.trial.E.times)) ∧
  (∀ S : FT, getA (fpW S) 47 = some (0, 12, S.trial.E.pumps)) ∧
  (∀ S : FT, getA (fpW S) 48 = some (0, 8, S.trial.E.latest)) ∧
  (∀ S : FT, getA (fpW S) 51 = some (2, 60, S.O.text)) := by
  repeat' apply And.intro
  all_goals (intro S; rfl)
def fpW_sa (S : FT) (id : Nat) (g : Nat → Int32) : Option FT := if id = 2 then some (S.sNow (S.now.sSettings g)) else if id = 4 then some (S.sNow (S.now.sP (S.now.P.sKinds g))) else if id = 5 then some (S.sNow (S.now.sP (S.now.P.sShutoffs g))) else if id = 6 then some (S.sNow (S.now.sP (S.now.P.sSteeps g))) else if id = 7 then some (S.sNow (S.now.sP (S.now.P.sInService g))) else if id = 8 then some (S.sNow (S.now.sP (S.now.P.sSpeeds g))) else if id = 9 then some (S.sNow (S.now.sP (S.now.P.sMinutes g))) else if id = 10 then some (S.sNow (S.now.sP (S.now.P.sSince g))) else if id = 11 then some (S.sNow (S.now.sP (S.now.P.sStarts g))) else if id = 13 then some (S.sNow (S.now.sZ (S.now.Z.sDemands g))) else if id = 14 then some (S.sNow (S.now.sZ (S.now.Z.sIsOpen g))) else if id = 15 then some (S.sNow (S.now.sZ (S.now.Z.sPzones g))) else if id = 16 then some (S.sNow (S.now.sZ (S.now.Z.sOpening g))) else if id = 17 then some (S.sNow (S.now.sZ (S.now.Z.sClosing g))) else if id = 19 then some (S.sNow (S.now.sN (S.now.N.sNoted g))) else if id = 21 then some (S.sNow (S.now.sE (S.now.E.sKinds g))) else if id = 22 then some (S.sNow (S.now.sE (S.now.E.sTimes g))) else if id = 23 then some (S.sNow (S.now.sE (S.now.E.sPumps g))) else if id = 24 then some (S.sNow (S.now.sE (S.now.E.sLatest g))) else if id = 26 then some (S.sTrial (S.trial.sSettings g)) else if id = 28 then some (S.sTrial (S.trial.sP (S.trial.P.sKinds g))) else if id = 29 then some (S.sTrial (S.trial.sP (S.trial.P.sShutoffs g))) else if id = 30 then some (S.sTrial (S.trial.sP (S.trial.P.sSteeps g))) else if id = 31 then some (S.sTrial (S.trial.sP (S.trial.P.sInService g))) else if id = 32 then some (S.sTrial (S.trial.sP (S.trial.P.sSpeeds g))) else if id = 33 then some (S.sTrial (S.trial.sP (S.trial.P.sMinutes g))) else if id = 34 then some (S.sTrial (S.trial.sP (S.trial.P.sSince g))) else if id = 35 then some (S.sTrial (S.trial.sP (S.trial.P.sStarts g))) else if id = 37 then some (S.sTrial (S.trial.sZ (S.trial.Z.sDemands g))) else if id = 38 then some (S.sTrial (S.trial.sZ (S.trial.Z.sIsOpen g))) else if id = 39 then some (S.sTrial (S.trial.sZ (S.trial.Z.sPzones g))) else if id = 40 then some (S.sTrial (S.trial.sZ (S.trial.Z.sOpening g))) else if id = 41 then some (S.sTrial (S.trial.sZ (S.trial.Z.sClosing g))) else if id = 43 then some (S.sTrial (S.trial.sN (S.trial.N.sNoted g))) else if id = 45 then some (S.sTrial (S.trial.sE (S.trial.E.sKinds g))) else if id = 46 then some (S.sTrial (S.trial.sE (S.trial.E.sTimes g))) else if id = 47 then some (S.sTrial (S.trial.sE (S.trial.E.sPumps g))) else if id = 48 then some (S.sTrial (S.trial.sE (S.trial.E.sLatest g))) else if id = 51 then some (S.sO (S.O.sText g)) else none
theorem fpW_sar : sarOk fpW fpW_sa := by
  intro S id g S' t n f h hA
  unfold fpW_sa at h
  by_cases h2 : id = 2
  · subst h2
    rw [if_pos rfl] at h
    cases h
    cases hA
    rfl
  rw [if_neg h2] at h
  by_cases h4 : id = 4
  · subst h4
    rw [if_pos rfl] at h
    cases h
    cases hA
    rfl
  rw [if_neg h4] at h
  by_cases h5 : id = 5
  · subst h5
    rw [if_pos rfl] at h
    cases h
    cases hA
    rfl
  rw [if_neg h5] at h
  by_cases h6 : id = 6
  · subst h6
    rw [if_pos rfl] at h
    cases h
    cases hA
    rfl
  rw [if_neg h6] at h
  by_cases h7 : id = 7
  · subst h7
    rw [if_pos rfl] at h
    cases h
    cases hA
    rfl
  rw [if_neg h7] at h
  by_cases h8 : id = 8
  · subst h8
    rw [if_pos rfl] at h
    cases h
    cases hA
    rfl
  rw [if_neg h8] at h
  by_cases h9 : id = 9
  · subst h9
    rw [if_pos rfl] at h
    cases h
    cases hA
    rfl
  rw [if_neg h9] at h
  by_cases h10 : id = 10
  · subst h10
    rw [if_pos rfl] at h
    cases h
    cases hA
    rfl
  rw [if_neg h10] at h
  by_cases h11 : id = 11
  · subst h11
    rw [if_pos rfl] at h
    cases h
    cases hA
    rfl
  rw [if_neg h11] at h
  by_cases h13 : id = 13
  · subst h13
    rw [if_pos rfl] at h
    cases h
    cases hA
    rfl
  rw [if_neg h13] at h
  by_cases h14 : id = 14
  · subst h14
    rw [if_pos rfl] at h
    cases h
    cases hA
    rfl
  rw [if_neg h14] at h
  by_cases h15 : id = 15
  · subst h15
    rw [if_pos rfl] at h
    cases h
    cases hA
    rfl
  rw [if_neg h15] at h
  by_cases h16 : id = 16
  · subst h16
    rw [if_pos rfl] at h
    cases h
    cases hA
    rfl
  rw [if_neg h16] at h
  by_cases h17 : id = 17
  · subst h17
    rw [if_pos rfl] at h
    cases h
    cases hA
    rfl
  rw [if_neg h17] at h
  by_cases h19 : id = 19
  · subst h19
    rw [if_pos rfl] at h
    cases h
    cases hA
    rfl
  rw [if_neg h19] at h
  by_cases h21 : id = 21
  · subst h21
    rw [if_pos rfl] at h
    cases h
    cases hA
    rfl
  rw [if_neg h21] at h
  by_cases h22 : id = 22
  · subst h22
    rw [if_pos rfl] at h
    cases h
    cases hA
    rfl
  rw [if_neg h22] at h
  by_cases h23 : id = 23
  · subst h23
    rw [if_pos rfl] at h
    cases h
    cases hA
    rfl
  rw [if_neg h23] at h
  by_cases h24 : id = 24
  · subst h24
    rw [if_pos rfl] at h
    cases h
    cases hA
    rfl
  rw [if_neg h24] at h
  by_cases h26 : id = 26
  · subst h26
    rw [if_pos rfl] at h
    cases h
    cases hA
    rfl
  rw [if_neg h26] at h
  by_cases h28 : id = 28
  · subst h28
    rw [if_pos rfl] at h
    cases h
    cases hA
    rfl
  rw [if_neg h28] at h
  by_cases h29 : id = 29
  · subst h29
    rw [if_pos rfl] at h
    cases h
    cases hA
    rfl
  rw [if_neg h29] at h
  by_cases h30 : id = 30
  · subst h30
    rw [if_pos rfl] at h
    cases h
    cases hA
    rfl
  rw [if_neg h30] at h
  by_cases h31 : id = 31
  · subst h31
    rw [if_pos rfl] at h
    cases h
    cases hA
    rfl
  rw [if_neg h31] at h
  by_cases h32 : id = 32
  · subst h32
    rw [if_pos rfl] at h
    cases h
    cases hA
    rfl
  rw [if_neg h32] at h
  by_cases h33 : id = 33
  · subst h33
    rw [if_pos rfl] at h
    cases h
    cases hA
    rfl
  rw [if_neg h33] at h
  by_cases h34 : id = 34
  · subst h34
    rw [if_pos rfl] at h
    cases h
    cases hA
    rfl
  rw [if_neg h34] at h
  by_cases h35 : id = 35
  · subst h35
    rw [if_pos rfl] at h
    cases h
    cases hA
    rfl
  rw [if_neg h35] at h
  by_cases h37 : id = 37
  · subst h37
    rw [if_pos rfl] at h
    cases h
    cases hA
    rfl
  rw [if_neg h37] at h
  by_cases h38 : id = 38
  · subst h38
    rw [if_pos rfl] at h
    cases h
    cases hA
    rfl
  rw [if_neg h38] at h
  by_cases h39 : id = 39
  · subst h39
    rw [if_pos rfl] at h
    cases h
    cases hA
    rfl
  rw [if_neg h39] at h
  by_cases h40 : id = 40
  · subst h40
    rw [if_pos rfl] at h
    cases h
    cases hA
    rfl
  rw [if_neg h40] at h
  by_cases h41 : id = 41
  · subst h41
    rw [if_pos rfl] at h
    cases h
    cases hA
    rfl
  rw [if_neg h41] at h
  by_cases h43 : id = 43
  · subst h43
    rw [if_pos rfl] at h
    cases h
    cases hA
    rfl
  rw [if_neg h43] at h
  by_cases h45 : id = 45
  · subst h45
    rw [if_pos rfl] at h
    cases h
    cases hA
    rfl
  rw [if_neg h45] at h
  by_cases h46 : id = 46
  · subst h46
    rw [if_pos rfl] at h
    cases h
    cases hA
    rfl
  rw [if_neg h46] at h
  by_cases h47 : id = 47
  · subst h47
    rw [if_pos rfl] at h
    cases h
    cases hA
    rfl
  rw [if_neg h47] at h
  by_cases h48 : id = 48
  · subst h48
    rw [if_pos rfl] at h
    cases h
    cases hA
    rfl
  rw [if_neg h48] at h
  by_cases h51 : id = 51
  · subst h51
    rw [if_pos rfl] at h
    cases h
    cases hA
    rfl
  rw [if_neg h51] at h
  cases h
set_option maxRecDepth 100000 in
theorem fpW_S : (∀ (S : FT) (g : Nat → Int32), fpW_sa S 2 g = some (S.sNow (S.now.sSettings g))) ∧
  (∀ (S : FT) (g : Nat → Int32), fpW_sa S 4 g = some (S.sNow (S.now.sP (S.now.P.sKinds g)))) ∧
  (∀ (S : FT) (g : Nat → Int32), fpW_sa S 5 g = some (S.sNow (S.now.sP (S.now.P.sShutoffs g)))) ∧
  (∀ (S : FT) (g : Nat → Int32), fpW_sa S 6 g = some (S.sNow (S.now.sP (S.now.P.sSteeps g)))) ∧
  (∀ (S : FT) (g : Nat → Int32), fpW_sa S 7 g = some (S.sNow (S.now.sP (S.now.P.sInService g)))) ∧
  (∀ (S : FT) (g : Nat → Int32), fpW_sa S 8 g = some (S.sNow (S.now.sP (S.now.P.sSpeeds g)))) ∧
  (∀ (S : FT) (g : Nat → Int32), fpW_sa S 9 g = some (S.sNow (S.now.sP (S.now.P.sMinutes g)))) ∧
  (∀ (S : FT) (g : Nat → Int32), fpW_sa S 10 g = some (S.sNow (S.now.sP (S.now.P.sSince g)))) ∧
  (∀ (S : FT) (g : Nat → Int32), fpW_sa S 11 g = some (S.sNow (S.now.sP (S.now.P.sStarts g)))) ∧
  (∀ (S : FT) (g : Nat → Int32), fpW_sa S 13 g = some (S.sNow (S.now.sZ (S.now.Z.sDemands g)))) ∧
  (∀ (S : FT) (g : Nat → Int32), fpW_sa S 14 g = some (S.sNow (S.now.sZ (S.now.Z.sIsOpen g)))) ∧
  (∀ (S : FT) (g : Nat → Int32), fpW_sa S 15 g = some (S.sNow (S.now.sZ (S.now.Z.sPzones g)))) ∧
  (∀ (S : FT) (g : Nat → Int32), fpW_sa S 16 g = some (S.sNow (S.now.sZ (S.now.Z.sOpening g)))) ∧
  (∀ (S : FT) (g : Nat → Int32), fpW_sa S 17 g = some (S.sNow (S.now.sZ (S.now.Z.sClosing g)))) ∧
  (∀ (S : FT) (g : Nat → Int32), fpW_sa S 19 g = some (S.sNow (S.now.sN (S.now.N.sNoted g)))) ∧
  (∀ (S : FT) (g : Nat → Int32), fpW_sa S 21 g = some (S.sNow (S.now.sE (S.now.E.sKinds g)))) ∧
  (∀ (S : FT) (g : Nat → Int32), fpW_sa S 22 g = some (S.sNow (S.now.sE (S.now.E.sTimes g)))) ∧
  (∀ (S : FT) (g : Nat → Int32), fpW_sa S 23 g = some (S.sNow (S.now.sE (S.now.E.sPumps g)))) ∧
  (∀ (S : FT) (g : Nat → Int32), fpW_sa S 24 g = some (S.sNow (S.now.sE (S.now.E.sLatest g)))) ∧
  (∀ (S : FT) (g : Nat → Int32), fpW_sa S 26 g = some (S.sTrial (S.trial.sSettings g))) ∧
  (∀ (S : FT) (g : Nat → Int32), fpW_sa S 28 g = some (S.sTrial (S.trial.sP (S.trial.P.sKinds g)))) ∧
  (∀ (S : FT) (g : Nat → Int32), fpW_sa S 29 g = some (S.sTrial (S.trial.sP (S.trial.P.sShutoffs g)))) ∧
  (∀ (S : FT) (g : Nat → Int32), fpW_sa S 30 g = some (S.sTrial (S.trial.sP (S.trial.P.sSteeps g)))) ∧
  (∀ (S : FT) (g : Nat → Int32), fpW_sa S 31 g = some (S.sTrial (S.trial.sP (S.trial.P.sInService g)))) ∧
  (∀ (S : FT) (g : Nat → Int32), fpW_sa S 32 g = some (S.sTrial (S.trial.sP (S.trial.P.sSpeeds g)))) ∧
  (∀ (S : FT) (g : Nat → Int32), fpW_sa S 33 g = some (S.sTrial (S.trial.sP (S.trial.P.sMinutes g)))) ∧
  (∀ (S : FT) (g : Nat → Int32), fpW_sa S 34 g = some (S.sTrial (S.trial.sP (S.trial.P.sSince g)))) ∧
  (∀ (S : FT) (g : Nat → Int32), fpW_sa S 35 g = some (S.sTrial (S.trial.sP (S.trial.P.sStarts g)))) ∧
  (∀ (S : FT) (g : Nat → Int32), fpW_sa S 37 g = some (S.sTrial (S.trial.sZ (S.trial.Z.sDemands g)))) ∧
  (∀ (S : FT) (g : Nat → Int32), fpW_sa S 38 g = some (S.sTrial (S.trial.sZ (S.trial.Z.sIsOpen g)))) ∧
  (∀ (S : FT) (g : Nat → Int32), fpW_sa S 39 g = some (S.sTrial (S.trial.sZ (S.trial.Z.sPzones g)))) ∧
  (∀ (S : FT) (g : Nat → Int32), fpW_sa S 40 g = some (S.sTrial (S.trial.sZ (S.trial.Z.sOpening g)))) ∧
  (∀ (S : FT) (g : Nat → Int32), fpW_sa S 41 g = some (S.sTrial (S.trial.sZ (S.trial.Z.sClosing g)))) ∧
  (∀ (S : FT) (g : Nat → Int32), fpW_sa S 43 g = some (S.sTrial (S.trial.sN (S.trial.N.sNoted g)))) ∧
  (∀ (S : FT) (g : Nat → Int32), fpW_sa S 45 g = some (S.sTrial (S.trial.sE (S.trial.E.sKinds g)))) ∧
  (∀ (S : FT) (g : Nat → Int32), fpW_sa S 46 g = some (S.sTrial (S.trial.sE (S.trial.E.sTimes g)))) ∧
  (∀ (S : FT) (g : Nat → Int32), fpW_sa S 47 g = some (S.sTrial (S.trial.sE (S.trial.E.sPumps g)))) ∧
  (∀ (S : FT) (g : Nat → Int32), fpW_sa S 48 g = some (S.sTrial (S.trial.sE (S.trial.E.sLatest g)))) ∧
  (∀ (S : FT) (g : Nat → Int32), fpW_sa S 51 g = some (S.sO (S.O.sText g))) := by
  repeat' apply And.intro
  all_goals (intro S g; rfl)
def fpW_p0_4 (S : FT) (id : Nat) (x : Int32) : Option FT := if id = 20 then some (S.sNow (S.now.sE (S.now.E.sAll x))) else if id = 44 then some (S.sTrial (S.trial.sE (S.trial.E.sAll x))) else none
theorem fpW_p0_4_ok : putOk fpW 0 4 fpW_p0_4 := by
  intro S id x S' h
  unfold fpW_p0_4 at h
  by_cases h20 : id = 20
  · subst h20
    rw [if_pos rfl] at h
    cases h
    exact ⟨_, rfl, Nat.le_of_ble_eq_true rfl, rfl⟩
  rw [if_neg h20] at h
  by_cases h44 : id = 44
  · subst h44
    rw [if_pos rfl] at h
    cases h
    exact ⟨_, rfl, Nat.le_of_ble_eq_true rfl, rfl⟩
  rw [if_neg h44] at h
  cases h
def fpW_p1_1 (S : FT) (id : Nat) (x : Int32) : Option FT := if id = 18 then some (S.sNow (S.now.sN (S.now.N.sSize x))) else if id = 42 then some (S.sTrial (S.trial.sN (S.trial.N.sSize x))) else none
theorem fpW_p1_1_ok : putOk fpW 1 1 fpW_p1_1 := by
  intro S id x S' h
  unfold fpW_p1_1 at h
  by_cases h18 : id = 18
  · subst h18
    rw [if_pos rfl] at h
    cases h
    exact ⟨_, rfl, Nat.le_of_ble_eq_true rfl, rfl⟩
  rw [if_neg h18] at h
  by_cases h42 : id = 42
  · subst h42
    rw [if_pos rfl] at h
    cases h
    exact ⟨_, rfl, Nat.le_of_ble_eq_true rfl, rfl⟩
  rw [if_neg h42] at h
  cases h
def fpW_p1_2 (S : FT) (id : Nat) (x : Int32) : Option FT := if id = 18 then some (S.sNow (S.now.sN (S.now.N.sFlow x))) else if id = 42 then some (S.sTrial (S.trial.sN (S.trial.N.sFlow x))) else none
theorem fpW_p1_2_ok : putOk fpW 1 2 fpW_p1_2 := by
  intro S id x S' h
  unfold fpW_p1_2 at h
  by_cases h18 : id = 18
  · subst h18
    rw [if_pos rfl] at h
    cases h
    exact ⟨_, rfl, Nat.le_of_ble_eq_true rfl, rfl⟩
  rw [if_neg h18] at h
  by_cases h42 : id = 42
  · subst h42
    rw [if_pos rfl] at h
    cases h
    exact ⟨_, rfl, Nat.le_of_ble_eq_true rfl, rfl⟩
  rw [if_neg h42] at h
  cases h
def fpW_p1_3 (S : FT) (id : Nat) (x : Int32) : Option FT := if id = 18 then some (S.sNow (S.now.sN (S.now.N.sAlarms x))) else if id = 42 then some (S.sTrial (S.trial.sN (S.trial.N.sAlarms x))) else none
theorem fpW_p1_3_ok : putOk fpW 1 3 fpW_p1_3 := by
  intro S id x S' h
  unfold fpW_p1_3 at h
  by_cases h18 : id = 18
  · subst h18
    rw [if_pos rfl] at h
    cases h
    exact ⟨_, rfl, Nat.le_of_ble_eq_true rfl, rfl⟩
  rw [if_neg h18] at h
  by_cases h42 : id = 42
  · subst h42
    rw [if_pos rfl] at h
    cases h
    exact ⟨_, rfl, Nat.le_of_ble_eq_true rfl, rfl⟩
  rw [if_neg h42] at h
  cases h
def fpW_p2_1 (S : FT) (id : Nat) (x : Int32) : Option FT := if id = 50 then some (S.sO (S.O.sLength x)) else none
theorem fpW_p2_1_ok : putOk fpW 2 1 fpW_p2_1 := by
  intro S id x S' h
  unfold fpW_p2_1 at h
  by_cases h50 : id = 50
  · subst h50
    rw [if_pos rfl] at h
    cases h
    exact ⟨_, rfl, Nat.le_of_ble_eq_true rfl, rfl⟩
  rw [if_neg h50] at h
  cases h
def fpW_p2_2 (S : FT) (id : Nat) (x : Int32) : Option FT := if id = 50 then some (S.sO (S.O.sPlace x)) else none
theorem fpW_p2_2_ok : putOk fpW 2 2 fpW_p2_2 := by
  intro S id x S' h
  unfold fpW_p2_2 at h
  by_cases h50 : id = 50
  · subst h50
    rw [if_pos rfl] at h
    cases h
    exact ⟨_, rfl, Nat.le_of_ble_eq_true rfl, rfl⟩
  rw [if_neg h50] at h
  cases h
def fpW_p2_3 (S : FT) (id : Nat) (x : Int32) : Option FT := if id = 50 then some (S.sO (S.O.sBehind x)) else none
theorem fpW_p2_3_ok : putOk fpW 2 3 fpW_p2_3 := by
  intro S id x S' h
  unfold fpW_p2_3 at h
  by_cases h50 : id = 50
  · subst h50
    rw [if_pos rfl] at h
    cases h
    exact ⟨_, rfl, Nat.le_of_ble_eq_true rfl, rfl⟩
  rw [if_neg h50] at h
  cases h
def fpW_p2_4 (S : FT) (id : Nat) (x : Int32) : Option FT := if id = 50 then some (S.sO (S.O.sDone x)) else none
theorem fpW_p2_4_ok : putOk fpW 2 4 fpW_p2_4 := by
  intro S id x S' h
  unfold fpW_p2_4 at h
  by_cases h50 : id = 50
  · subst h50
    rw [if_pos rfl] at h
    cases h
    exact ⟨_, rfl, Nat.le_of_ble_eq_true rfl, rfl⟩
  rw [if_neg h50] at h
  cases h
def fpW_p2_5 (S : FT) (id : Nat) (x : Int32) : Option FT := if id = 50 then some (S.sO (S.O.sLetter x)) else none
theorem fpW_p2_5_ok : putOk fpW 2 5 fpW_p2_5 := by
  intro S id x S' h
  unfold fpW_p2_5 at h
  by_cases h50 : id = 50
  · subst h50
    rw [if_pos rfl] at h
    cases h
    exact ⟨_, rfl, Nat.le_of_ble_eq_true rfl, rfl⟩
  rw [if_neg h50] at h
  cases h
def fpW_p2_6 (S : FT) (id : Nat) (x : Int32) : Option FT := if id = 50 then some (S.sO (S.O.sNumber x)) else none
theorem fpW_p2_6_ok : putOk fpW 2 6 fpW_p2_6 := by
  intro S id x S' h
  unfold fpW_p2_6 at h
  by_cases h50 : id = 50
  · subst h50
    rw [if_pos rfl] at h
    cases h
    exact ⟨_, rfl, Nat.le_of_ble_eq_true rfl, rfl⟩
  rw [if_neg h50] at h
  cases h
def fpW_p3_8 (S : FT) (id : Nat) (x : Int32) : Option FT := if id = 3 then some (S.sNow (S.now.sP (S.now.P.sSize x))) else if id = 27 then some (S.sTrial (S.trial.sP (S.trial.P.sSize x))) else none
theorem fpW_p3_8_ok : putOk fpW 3 8 fpW_p3_8 := by
  intro S id x S' h
  unfold fpW_p3_8 at h
  by_cases h3 : id = 3
  · subst h3
    rw [if_pos rfl] at h
    cases h
    exact ⟨_, rfl, Nat.le_of_ble_eq_true rfl, rfl⟩
  rw [if_neg h3] at h
  by_cases h27 : id = 27
  · subst h27
    rw [if_pos rfl] at h
    cases h
    exact ⟨_, rfl, Nat.le_of_ble_eq_true rfl, rfl⟩
  rw [if_neg h27] at h
  cases h
def fpW_p3_9 (S : FT) (id : Nat) (x : Int32) : Option FT := if id = 3 then some (S.sNow (S.now.sP (S.now.P.sVrb x))) else if id = 27 then some (S.sTrial (S.trial.sP (S.trial.P.sVrb x))) else none
theorem fpW_p3_9_ok : putOk fpW 3 9 fpW_p3_9 := by
  intro S id x S' h
  unfold fpW_p3_9 at h
  by_cases h3 : id = 3
  · subst h3
    rw [if_pos rfl] at h
    cases h
    exact ⟨_, rfl, Nat.le_of_ble_eq_true rfl, rfl⟩
  rw [if_neg h3] at h
  by_cases h27 : id = 27
  · subst h27
    rw [if_pos rfl] at h
    cases h
    exact ⟨_, rfl, Nat.le_of_ble_eq_true rfl, rfl⟩
  rw [if_neg h27] at h
  cases h
def fpW_p4_5 (S : FT) (id : Nat) (x : Int32) : Option FT := if id = 1 then some (S.sNow (S.now.sTime x)) else if id = 25 then some (S.sTrial (S.trial.sTime x)) else none
theorem fpW_p4_5_ok : putOk fpW 4 5 fpW_p4_5 := by
  intro S id x S' h
  unfold fpW_p4_5 at h
  by_cases h1 : id = 1
  · subst h1
    rw [if_pos rfl] at h
    cases h
    exact ⟨_, rfl, Nat.le_of_ble_eq_true rfl, rfl⟩
  rw [if_neg h1] at h
  by_cases h25 : id = 25
  · subst h25
    rw [if_pos rfl] at h
    cases h
    exact ⟨_, rfl, Nat.le_of_ble_eq_true rfl, rfl⟩
  rw [if_neg h25] at h
  cases h
def fpW_p4_6 (S : FT) (id : Nat) (x : Int32) : Option FT := if id = 1 then some (S.sNow (S.now.sPressure x)) else if id = 25 then some (S.sTrial (S.trial.sPressure x)) else none
theorem fpW_p4_6_ok : putOk fpW 4 6 fpW_p4_6 := by
  intro S id x S' h
  unfold fpW_p4_6 at h
  by_cases h1 : id = 1
  · subst h1
    rw [if_pos rfl] at h
    cases h
    exact ⟨_, rfl, Nat.le_of_ble_eq_true rfl, rfl⟩
  rw [if_neg h1] at h
  by_cases h25 : id = 25
  · subst h25
    rw [if_pos rfl] at h
    cases h
    exact ⟨_, rfl, Nat.le_of_ble_eq_true rfl, rfl⟩
  rw [if_neg h25] at h
  cases h
def fpW_p4_7 (S : FT) (id : Nat) (x : Int32) : Option FT := if id = 1 then some (S.sNow (S.now.sLevel x)) else if id = 25 then some (S.sTrial (S.trial.sLevel x)) else none
theorem fpW_p4_7_ok : putOk fpW 4 7 fpW_p4_7 := by
  intro S id x S' h
  unfold fpW_p4_7 at h
  by_cases h1 : id = 1
  · subst h1
    rw [if_pos rfl] at h
    cases h
    exact ⟨_, rfl, Nat.le_of_ble_eq_true rfl, rfl⟩
  rw [if_neg h1] at h
  by_cases h25 : id = 25
  · subst h25
    rw [if_pos rfl] at h
    cases h
    exact ⟨_, rfl, Nat.le_of_ble_eq_true rfl, rfl⟩
  rw [if_neg h25] at h
  cases h
def fpW_p4_8 (S : FT) (id : Nat) (x : Int32) : Option FT := if id = 1 then some (S.sNow (S.now.sLeak x)) else if id = 25 then some (S.sTrial (S.trial.sLeak x)) else none
theorem fpW_p4_8_ok : putOk fpW 4 8 fpW_p4_8 := by
  intro S id x S' h
  unfold fpW_p4_8 at h
  by_cases h1 : id = 1
  · subst h1
    rw [if_pos rfl] at h
    cases h
    exact ⟨_, rfl, Nat.le_of_ble_eq_true rfl, rfl⟩
  rw [if_neg h1] at h
  by_cases h25 : id = 25
  · subst h25
    rw [if_pos rfl] at h
    cases h
    exact ⟨_, rfl, Nat.le_of_ble_eq_true rfl, rfl⟩
  rw [if_neg h25] at h
  cases h
def fpW_p4_9 (S : FT) (id : Nat) (x : Int32) : Option FT := if id = 1 then some (S.sNow (S.now.sSupply x)) else if id = 25 then some (S.sTrial (S.trial.sSupply x)) else none
theorem fpW_p4_9_ok : putOk fpW 4 9 fpW_p4_9 := by
  intro S id x S' h
  unfold fpW_p4_9 at h
  by_cases h1 : id = 1
  · subst h1
    rw [if_pos rfl] at h
    cases h
    exact ⟨_, rfl, Nat.le_of_ble_eq_true rfl, rfl⟩
  rw [if_neg h1] at h
  by_cases h25 : id = 25
  · subst h25
    rw [if_pos rfl] at h
    cases h
    exact ⟨_, rfl, Nat.le_of_ble_eq_true rfl, rfl⟩
  rw [if_neg h25] at h
  cases h
def fpW_p4_10 (S : FT) (id : Nat) (x : Int32) : Option FT := if id = 1 then some (S.sNow (S.now.sAllSupplied x)) else if id = 25 then some (S.sTrial (S.trial.sAllSupplied x)) else none
theorem fpW_p4_10_ok : putOk fpW 4 10 fpW_p4_10 := by
  intro S id x S' h
  unfold fpW_p4_10 at h
  by_cases h1 : id = 1
  · subst h1
    rw [if_pos rfl] at h
    cases h
    exact ⟨_, rfl, Nat.le_of_ble_eq_true rfl, rfl⟩
  rw [if_neg h1] at h
  by_cases h25 : id = 25
  · subst h25
    rw [if_pos rfl] at h
    cases h
    exact ⟨_, rfl, Nat.le_of_ble_eq_true rfl, rfl⟩
  rw [if_neg h25] at h
  cases h
def fpW_p4_11 (S : FT) (id : Nat) (x : Int32) : Option FT := if id = 1 then some (S.sNow (S.now.sDry x)) else if id = 25 then some (S.sTrial (S.trial.sDry x)) else none
theorem fpW_p4_11_ok : putOk fpW 4 11 fpW_p4_11 := by
  intro S id x S' h
  unfold fpW_p4_11 at h
  by_cases h1 : id = 1
  · subst h1
    rw [if_pos rfl] at h
    cases h
    exact ⟨_, rfl, Nat.le_of_ble_eq_true rfl, rfl⟩
  rw [if_neg h1] at h
  by_cases h25 : id = 25
  · subst h25
    rw [if_pos rfl] at h
    cases h
    exact ⟨_, rfl, Nat.le_of_ble_eq_true rfl, rfl⟩
  rw [if_neg h25] at h
  cases h
def fpW_p4_12 (S : FT) (id : Nat) (x : Int32) : Option FT := if id = 1 then some (S.sNow (S.now.sDryMinutes x)) else if id = 25 then some (S.sTrial (S.trial.sDryMinutes x)) else none
theorem fpW_p4_12_ok : putOk fpW 4 12 fpW_p4_12 := by
  intro S id x S' h
  unfold fpW_p4_12 at h
  by_cases h1 : id = 1
  · subst h1
    rw [if_pos rfl] at h
    cases h
    exact ⟨_, rfl, Nat.le_of_ble_eq_true rfl, rfl⟩
  rw [if_neg h1] at h
  by_cases h25 : id = 25
  · subst h25
    rw [if_pos rfl] at h
    cases h
    exact ⟨_, rfl, Nat.le_of_ble_eq_true rfl, rfl⟩
  rw [if_neg h25] at h
  cases h
def fpW_p4_13 (S : FT) (id : Nat) (x : Int32) : Option FT := if id = 1 then some (S.sNow (S.now.sTrips x)) else if id = 25 then some (S.sTrial (S.trial.sTrips x)) else none
theorem fpW_p4_13_ok : putOk fpW 4 13 fpW_p4_13 := by
  intro S id x S' h
  unfold fpW_p4_13 at h
  by_cases h1 : id = 1
  · subst h1
    rw [if_pos rfl] at h
    cases h
    exact ⟨_, rfl, Nat.le_of_ble_eq_true rfl, rfl⟩
  rw [if_neg h1] at h
  by_cases h25 : id = 25
  · subst h25
    rw [if_pos rfl] at h
    cases h
    exact ⟨_, rfl, Nat.le_of_ble_eq_true rfl, rfl⟩
  rw [if_neg h25] at h
  cases h
def fpW_p4_14 (S : FT) (id : Nat) (x : Int32) : Option FT := if id = 1 then some (S.sNow (S.now.sToStart x)) else if id = 25 then some (S.sTrial (S.trial.sToStart x)) else none
theorem fpW_p4_14_ok : putOk fpW 4 14 fpW_p4_14 := by
  intro S id x S' h
  unfold fpW_p4_14 at h
  by_cases h1 : id = 1
  · subst h1
    rw [if_pos rfl] at h
    cases h
    exact ⟨_, rfl, Nat.le_of_ble_eq_true rfl, rfl⟩
  rw [if_neg h1] at h
  by_cases h25 : id = 25
  · subst h25
    rw [if_pos rfl] at h
    cases h
    exact ⟨_, rfl, Nat.le_of_ble_eq_true rfl, rfl⟩
  rw [if_neg h25] at h
  cases h
def fpW_p4_15 (S : FT) (id : Nat) (x : Int32) : Option FT := if id = 1 then some (S.sNow (S.now.sToStop x)) else if id = 25 then some (S.sTrial (S.trial.sToStop x)) else none
theorem fpW_p4_15_ok : putOk fpW 4 15 fpW_p4_15 := by
  intro S id x S' h
  unfold fpW_p4_15 at h
  by_cases h1 : id = 1
  · subst h1
    rw [if_pos rfl] at h
    cases h
    exact ⟨_, rfl, Nat.le_of_ble_eq_true rfl, rfl⟩
  rw [if_neg h1] at h
  by_cases h25 : id = 25
  · subst h25
    rw [if_pos rfl] at h
    cases h
    exact ⟨_, rfl, Nat.le_of_ble_eq_true rfl, rfl⟩
  rw [if_neg h25] at h
  cases h
def fpW_p4_16 (S : FT) (id : Nat) (x : Int32) : Option FT := if id = 1 then some (S.sNow (S.now.sToSleep x)) else if id = 25 then some (S.sTrial (S.trial.sToSleep x)) else none
theorem fpW_p4_16_ok : putOk fpW 4 16 fpW_p4_16 := by
  intro S id x S' h
  unfold fpW_p4_16 at h
  by_cases h1 : id = 1
  · subst h1
    rw [if_pos rfl] at h
    cases h
    exact ⟨_, rfl, Nat.le_of_ble_eq_true rfl, rfl⟩
  rw [if_neg h1] at h
  by_cases h25 : id = 25
  · subst h25
    rw [if_pos rfl] at h
    cases h
    exact ⟨_, rfl, Nat.le_of_ble_eq_true rfl, rfl⟩
  rw [if_neg h25] at h
  cases h
def fpW_p5_2 (S : FT) (id : Nat) (x : Int32) : Option FT := if id = 12 then some (S.sNow (S.now.sZ (S.now.Z.sSize x))) else if id = 36 then some (S.sTrial (S.trial.sZ (S.trial.Z.sSize x))) else none
theorem fpW_p5_2_ok : putOk fpW 5 2 fpW_p5_2 := by
  intro S id x S' h
  unfold fpW_p5_2 at h
  by_cases h12 : id = 12
  · subst h12
    rw [if_pos rfl] at h
    cases h
    exact ⟨_, rfl, Nat.le_of_ble_eq_true rfl, rfl⟩
  rw [if_neg h12] at h
  by_cases h36 : id = 36
  · subst h36
    rw [if_pos rfl] at h
    cases h
    exact ⟨_, rfl, Nat.le_of_ble_eq_true rfl, rfl⟩
  rw [if_neg h36] at h
  cases h
def fpW_p5_6 (S : FT) (id : Nat) (x : Int32) : Option FT := if id = 12 then some (S.sNow (S.now.sZ (S.now.Z.sProgrammes x))) else if id = 36 then some (S.sTrial (S.trial.sZ (S.trial.Z.sProgrammes x))) else none
theorem fpW_p5_6_ok : putOk fpW 5 6 fpW_p5_6 := by
  intro S id x S' h
  unfold fpW_p5_6 at h
  by_cases h12 : id = 12
  · subst h12
    rw [if_pos rfl] at h
    cases h
    exact ⟨_, rfl, Nat.le_of_ble_eq_true rfl, rfl⟩
  rw [if_neg h12] at h
  by_cases h36 : id = 36
  · subst h36
    rw [if_pos rfl] at h
    cases h
    exact ⟨_, rfl, Nat.le_of_ble_eq_true rfl, rfl⟩
  rw [if_neg h36] at h
  cases h
def fpW_p6_3 (S : FT) (id : Nat) (x : Int32) : Option FT := if id = 0 then some (S.sStates x) else none
theorem fpW_p6_3_ok : putOk fpW 6 3 fpW_p6_3 := by
  intro S id x S' h
  unfold fpW_p6_3 at h
  by_cases h0 : id = 0
  · subst h0
    rw [if_pos rfl] at h
    cases h
    exact ⟨_, rfl, Nat.le_of_ble_eq_true rfl, rfl⟩
  rw [if_neg h0] at h
  cases h
set_option maxRecDepth 100000 in
theorem fpW_P : (∀ (S : FT) (x : Int32), fpW_p0_4 S 20 x = some (S.sNow (S.now.sE (S.now.E.sAll x)))) ∧
  (∀ (S : FT) (x : Int32), fpW_p0_4 S 44 x = some (S.sTrial (S.trial.sE (S.trial.E.sAll x)))) ∧
  (∀ (S : FT) (x : Int32), fpW_p1_1 S 18 x = some (S.sNow (S.now.sN (S.now.N.sSize x)))) ∧
  (∀ (S : FT) (x : Int32), fpW_p1_1 S 42 x = some (S.sTrial (S.trial.sN (S.trial.N.sSize x)))) ∧
  (∀ (S : FT) (x : Int32), fpW_p1_2 S 18 x = some (S.sNow (S.now.sN (S.now.N.sFlow x)))) ∧
  (∀ (S : FT) (x : Int32), fpW_p1_2 S 42 x = some (S.sTrial (S.trial.sN (S.trial.N.sFlow x)))) ∧
  (∀ (S : FT) (x : Int32), fpW_p1_3 S 18 x = some (S.sNow (S.now.sN (S.now.N.sAlarms x)))) ∧
  (∀ (S : FT) (x : Int32), fpW_p1_3 S 42 x = some (S.sTrial (S.trial.sN (S.trial.N.sAlarms x)))) ∧
  (∀ (S : FT) (x : Int32), fpW_p2_1 S 50 x = some (S.sO (S.O.sLength x))) ∧
  (∀ (S : FT) (x : Int32), fpW_p2_2 S 50 x = some (S.sO (S.O.sPlace x))) ∧
  (∀ (S : FT) (x : Int32), fpW_p2_3 S 50 x = some (S.sO (S.O.sBehind x))) ∧
  (∀ (S : FT) (x : Int32), fpW_p2_4 S 50 x = some (S.sO (S.O.sDone x))) ∧
  (∀ (S : FT) (x : Int32), fpW_p2_5 S 50 x = some (S.sO (S.O.sLetter x))) ∧
  (∀ (S : FT) (x : Int32), fpW_p2_6 S 50 x = some (S.sO (S.O.sNumber x))) ∧
  (∀ (S : FT) (x : Int32), fpW_p3_8 S 3 x = some (S.sNow (S.now.sP (S.now.P.sSize x)))) ∧
  (∀ (S : FT) (x : Int32), fpW_p3_8 S 27 x = some (S.sTrial (S.trial.sP (S.trial.P.sSize x)))) ∧
  (∀ (S : FT) (x : Int32), fpW_p3_9 S 3 x = some (S.sNow (S.now.sP (S.now.P.sVrb x)))) ∧
  (∀ (S : FT) (x : Int32), fpW_p3_9 S 27 x = some (S.sTrial (S.trial.sP (S.trial.P.sVrb x)))) ∧
  (∀ (S : FT) (x : Int32), fpW_p4_5 S 1 x = some (S.sNow (S.now.sTime x))) ∧
  (∀ (S : FT) (x : Int32), fpW_p4_5 S 25 x = some (S.sTrial (S.trial.sTime x))) ∧
  (∀ (S : FT) (x : Int32), fpW_p4_6 S 1 x = some (S.sNow (S.now.sPressure x))) ∧
  (∀ (S : FT) (x : Int32), fpW_p4_6 S 25 x = some (S.sTrial (S.trial.sPressure x))) ∧
  (∀ (S : FT) (x : Int32), fpW_p4_7 S 1 x = some (S.sNow (S.now.sLevel x))) ∧
  (∀ (S : FT) (x : Int32), fpW_p4_7 S 25 x = some (S.sTrial (S.trial.sLevel x))) ∧
  (∀ (S : FT) (x : Int32), fpW_p4_8 S 1 x = some (S.sNow (S.now.sLeak x))) ∧
  (∀ (S : FT) (x : Int32), fpW_p4_8 S 25 x = some (S.sTrial (S.trial.sLeak x))) ∧
  (∀ (S : FT) (x : Int32), fpW_p4_9 S 1 x = some (S.sNow (S.now.sSupply x))) ∧
  (∀ (S : FT) (x : Int32), fpW_p4_9 S 25 x = some (S.sTrial (S.trial.sSupply x))) ∧
  (∀ (S : FT) (x : Int32), fpW_p4_10 S 1 x = some (S.sNow (S.now.sAllSupplied x))) ∧
  (∀ (S : FT) (x : Int32), fpW_p4_10 S 25 x = some (S.sTrial (S.trial.sAllSupplied x))) ∧
  (∀ (S : FT) (x : Int32), fpW_p4_11 S 1 x = some (S.sNow (S.now.sDry x))) ∧
  (∀ (S : FT) (x : Int32), fpW_p4_11 S 25 x = some (S.sTrial (S.trial.sDry x))) ∧
  (∀ (S : FT) (x : Int32), fpW_p4_12 S 1 x = some (S.sNow (S.now.sDryMinutes x))) ∧
  (∀ (S : FT) (x : Int32), fpW_p4_12 S 25 x = some (S.sTrial (S.trial.sDryMinutes x))) ∧
  (∀ (S : FT) (x : Int32), fpW_p4_13 S 1 x = some (S.sNow (S.now.sTrips x))) ∧
  (∀ (S : FT) (x : Int32), fpW_p4_13 S 25 x = some (S.sTrial (S.trial.sTrips x))) ∧
  (∀ (S : FT) (x : Int32), fpW_p4_14 S 1 x = some (S.sNow (S.now.sToStart x))) ∧
  (∀ (S : FT) (x : Int32), fpW_p4_14 S 25 x = some (S.sTrial (S.trial.sToStart x))) ∧
  (∀ (S : FT) (x : Int32), fpW_p4_15 S 1 x = some (S.sNow (S.now.sToStop x))) ∧
  (∀ (S : FT) (x : Int32), fpW_p4_15 S 25 x = some (S.sTrial (S.trial.sToStop x))) ∧
  (∀ (S : FT) (x : Int32), fpW_p4_16 S 1 x = some (S.sNow (S.now.sToSleep x))) ∧
  (∀ (S : FT) (x : Int32), fpW_p4_16 S 25 x = some (S.sTrial (S.trial.sToSleep x))) ∧
  (∀ (S : FT) (x : Int32), fpW_p5_2 S 12 x = some (S.sNow (S.now.sZ (S.now.Z.sSize x)))) ∧
  (∀ (S : FT) (x : Int32), fpW_p5_2 S 36 x = some (S.sTrial (S.trial.sZ (S.trial.Z.sSize x)))) ∧
  (∀ (S : FT) (x : Int32), fpW_p5_6 S 12 x = some (S.sNow (S.now.sZ (S.now.Z.sProgrammes x)))) ∧
  (∀ (S : FT) (x : Int32), fpW_p5_6 S 36 x = some (S.sTrial (S.trial.sZ (S.trial.Z.sProgrammes x)))) ∧
  (∀ (S : FT) (x : Int32), fpW_p6_3 S 0 x = some (S.sStates x)) := by
  repeat' apply And.intro
  all_goals (intro S x; rfl)
