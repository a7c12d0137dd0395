/-! ===== own layer: pure helpers ===== -/
/-- more turns than any loop here makes -/
def FU : Nat := 20000
def loopF {σ ρ : Type} (body : σ → Option (σ ⊕ ρ)) : Nat → σ → Option ρ
  | 0, _ => none
  | n + 1, s => match body s with
    | none => none
    | some (.inl s') => loopF body n s'
    | some (.inr r) => some r
theorem loopF_ind {σ ρ : Type} {body : σ → Option (σ ⊕ ρ)} {res : ρ} (P : σ → Prop) (step : ∀ s t, body s = some t → (∀ s', t = .inl s' → P s') → (∀ r, t = .inr r → r = res) → P s) : ∀ (n : Nat) (s : σ), loopF body n s = some res → P s
  | 0, s, h => by cases h
  | n + 1, s, h => by
    cases hb : body s with
    | none => simp [loopF, hb] at h
    | some t =>
      refine step s t hb (fun s' e => ?_) (fun r e => ?_)
      · subst e
        exact loopF_ind P step n s' (by simpa [loopF, hb] using h)
      · subst e
        simpa [loopF, hb] using h
theorem loopF_seq {σ ρ : Type} {body : σ → Option (σ ⊕ ρ)} {r : ρ} (s : Nat → σ) : ∀ (k N i : Nat), i + k < i + N → (∀ j, i ≤ j → j < i + k → body (s j) = some (.inl (s (j + 1)))) → body (s (i + k)) = some (.inr r) → loopF body N (s i) = some r
  | 0, 0, _, h, _, _ => absurd h (by omega)
  | 0, N + 1, i, _, _, hr => by
    have hr : body (s i) = some (.inr r) := hr
    simp [loopF, hr]
  | k + 1, 0, _, h, _, _ => absurd h (by omega)
  | k + 1, N + 1, i, h, hs, hr => by
    have h1 := hs i (Nat.le_refl i) (by omega)
    simp only [loopF, h1]
    exact loopF_seq s k N (i + 1) (by omega) (fun j h2 h3 => hs j (by omega) (by omega)) (by rw [← hr]; congr 2; omega)
def bnd {α β : Type} (x : α) (f : α → β) : β := f x
theorem bnd_of {α β : Type} {x y : α} {f : α → β} {t : β} (e : y = x) (h : bnd x f = t) : f y = t := by subst e; exact h
def gd {β : Type} (i : Int32) (n : Nat) (f : Option β) : Option β := if i < 0 ∨ n ≤ i.toNatClampNeg then none else f
theorem gd_of {β : Type} {i : Int32} {n : Nat} {f : Option β} {t : β} (h : gd i n f = some t) : vp_in i n ∧ f = some t := by
  unfold gd at h
  split at h
  · cases h
  · rename_i q
    exact ⟨q, h⟩
theorem gd_in {β : Type} {i : Int32} {n : Nat} {f : Option β} (h : vp_in i n) : gd i n f = f := if_neg h
/-- a guard that a yes or no is one -/
def gz {β : Type} (v : Int32) (f : Option β) : Option β := if v &&& 1 = v then f else none
theorem gz_of {β : Type} {v : Int32} {f : Option β} {t : β} (h : gz v f = some t) : narrow .boolean (.int v) = .int v ∧ f = some t := by
  unfold gz at h
  split at h
  · rename_i q
    refine ⟨?_, h⟩
    show Value.int (v &&& 1) = Value.int v
    rw [q]
  · cases h
/-- a guard of a number that isn't 0 -/
def g0 {β : Type} (v : Int32) (f : Option β) : Option β := if v = 0 then none else f
theorem g0_of {β : Type} {v : Int32} {f : Option β} {t : β} (h : g0 v f = some t) : ¬ v = 0 ∧ f = some t := by
  unfold g0 at h
  split at h
  · cases h
  · rename_i q
    exact ⟨q, h⟩
theorem bind_of {α β : Type} {x : Option α} {f : α → Option β} {t : β} (h : x.bind f = some t) : ∃ a, x = some a ∧ f a = some t := by
  cases x with
  | none => cases h
  | some a => exact ⟨a, rfl, h⟩
/-! ===== own layer: the states: numbers, rows of numbers, a row of longs, how many calls, their numbers ===== -/
abbrev St : Type := (Nat → Int32) × (Nat → Nat → Int32) × (Nat → Int64) × Nat × (Nat → Nat → Int32)
def gI (S : St) (k : Nat) : Int32 := S.1 k
def gM (S : St) (k : Nat) : Nat → Int32 := S.2.1 k
def gJ (S : St) : Nat → Int64 := S.2.2.1
def nC (S : St) : Nat := S.2.2.2.1
def gC (S : St) (i f : Nat) : Int32 := S.2.2.2.2 i f
def sI (S : St) (k : Nat) (v : Int32) : St := (va_up S.1 k v, S.2)
def sF (S : St) (k : Nat) (f : Nat → Int32) : St := (S.1, va_up S.2.1 k f, S.2.2)
def sM (S : St) (k j : Nat) (v : Int32) : St := sF S k (upd (gM S k) j v)
def sJ (S : St) (j : Nat) (v : Int64) : St := (S.1, S.2.1, vp_updL S.2.2.1 j v, S.2.2.2)
def sC (S : St) (i f : Nat) (v : Int32) : St := (S.1, S.2.1, S.2.2.1, S.2.2.2.1, va_up S.2.2.2.2 i (va_up (S.2.2.2.2 i) f v))
/-- the text without lines -/
def plL : List Int32 := [45, 10, 1, 8, 100, 60, 1, 20, 400, 0, 0, -1]
def plF (j : Nat) : Int32 := plL.getD j 0
/-- a text: 25 .. 44 the editions', 45 the one without lines -/
def gT (S : St) (k : Nat) : Nat → Int32 := if k = 45 then plF else gM S k
/-! ===== own layer: what holds all the time ===== -/
abbrev GP : Type := va_G × (Nat → ClassId) × Nat × (Nat → Nat) × (Nat → Nat)
def tyG (cs : Nat → ClassId) : List (ClassId × FieldType) := [(cs 0, .byte), (cs 1, .int), (cs 2, .long), (cs 3, .boolean), (cs 4, .object "DutyDesk$Call"), (cs 5, .array .int)]
def gnW : List Cond := [
  .fieldLinkNest "DutyDesk" 57 "DutyDesk$Reader" "length" "I" "DutyDesk",
  .fieldLinkNest "DutyDesk" 125 "DutyDesk$Reader" "text" "[I" "DutyDesk",
  .fieldLinkNest "DutyDesk" 131 "DutyDesk$Reader" "faultKind" "I" "DutyDesk",
  .fieldLinkNest "DutyDesk" 134 "DutyDesk$Reader" "faultPlace" "I" "DutyDesk",
  .fieldLinkNest "DutyDesk" 124 "DutyDesk$Statutes" "size" "I" "DutyDesk",
  .fieldLinkNest "DutyDesk" 105 "DutyDesk$People" "town" "[I" "DutyDesk",
  .fieldLinkNest "DutyDesk$Calls" 111 "DutyDesk$People" "town" "[I" "DutyDesk",
  .fieldLinkNest "DutyDesk" 108 "DutyDesk$People" "panels" "[I" "DutyDesk",
  .fieldLinkNest "DutyDesk" 111 "DutyDesk$People" "tongues" "[I" "DutyDesk",
  .fieldLinkNest "DutyDesk" 90 "DutyDesk$People" "struck" "[I" "DutyDesk",
  .fieldLinkNest "DutyDesk" 117 "DutyDesk$People" "taken" "[I" "DutyDesk",
  .fieldLinkNest "DutyDesk$Calls" 105 "DutyDesk$People" "taken" "[I" "DutyDesk",
  .fieldLinkNest "DutyDesk$Planner" 39 "DutyDesk$People" "size" "I" "DutyDesk",
  .fieldLinkNest "DutyDesk" 69 "DutyDesk$People" "size" "I" "DutyDesk",
  .fieldLinkNest "DutyDesk$Calls" 89 "DutyDesk$People" "size" "I" "DutyDesk",
  .fieldLinkNest "DutyDesk$Nights" 73 "DutyDesk$People" "size" "I" "DutyDesk",
  .fieldLinkNest "DutyDesk$Planner" 98 "DutyDesk$Nights" "duties" "[I" "DutyDesk",
  .fieldLinkNest "DutyDesk" 114 "DutyDesk$Nights" "duties" "[I" "DutyDesk",
  .fieldLinkNest "DutyDesk" 169 "DutyDesk$Calls" "size" "I" "DutyDesk",
  .fieldLinkNest "DutyDesk" 159 "DutyDesk$Calls" "against" "[I" "DutyDesk",
  .fieldLinkNest "DutyDesk" 162 "DutyDesk$Calls" "waived" "[I" "DutyDesk",
  .fieldLinkNest "DutyDesk$Statutes" 26 "DutyDesk" "PLAIN_TEXT" "[I" "DutyDesk",
  .fieldLinkNest "DutyDesk$Reader" 26 "DutyDesk" "PLAIN_TEXT" "[I" "DutyDesk",
  .fieldLinkNest "DutyDesk$Calls" 44 "DutyDesk$Call" "day" "I" "DutyDesk",
  .fieldLinkNest "DutyDesk" 205 "DutyDesk$Call" "day" "I" "DutyDesk",
  .fieldLinkNest "DutyDesk$Calls" 76 "DutyDesk$Call" "panel" "I" "DutyDesk",
  .fieldLinkNest "DutyDesk$Calls" 114 "DutyDesk$Call" "town" "I" "DutyDesk",
  .fieldLinkNest "DutyDesk$Calls" 125 "DutyDesk$Call" "tongue" "I" "DutyDesk",
  .fieldLinkNest "DutyDesk$Calls" 138 "DutyDesk$Call" "ofCase" "I" "DutyDesk",
  .fieldLinkNest "DutyDesk$Calls" 141 "DutyDesk$Call" "accused" "I" "DutyDesk",
  .fieldLinkNest "DutyDesk$Calls" 54 "DutyDesk$Call" "state" "I" "DutyDesk",
  .fieldLinkNest "DutyDesk" 190 "DutyDesk$Call" "state" "I" "DutyDesk",
  .fieldLinkNest "DutyDesk$Calls" 51 "DutyDesk$Call" "asked" "I" "DutyDesk",
  .fieldLinkNest "DutyDesk" 187 "DutyDesk$Call" "asked" "I" "DutyDesk",
  .fieldLinkNest "DutyDesk$Calls" 57 "DutyDesk$Call" "askedBits" "I" "DutyDesk",
  .fieldLinkNest "DutyDesk$Calls" 155 "DutyDesk$Call" "refused" "I" "DutyDesk",
  .fieldLinkNest "DutyDesk" 196 "DutyDesk$Call" "refused" "I" "DutyDesk",
  .fieldLinkNest "DutyDesk$Calls" 99 "DutyDesk$Call" "taker" "I" "DutyDesk",
  .fieldLinkNest "DutyDesk" 199 "DutyDesk$Call" "taker" "I" "DutyDesk",
  .fieldLinkNest "DutyDesk$Calls" 152 "DutyDesk$Call" "minutesThere" "I" "DutyDesk",
  .fieldLinkNest "DutyDesk$Calls" 158 "DutyDesk$Call" "delay" "I" "DutyDesk",
  .fieldLinkNest "DutyDesk" 202 "DutyDesk$Call" "delay" "I" "DutyDesk",
  .fieldLinkNest "DutyDesk$Calls" 161 "DutyDesk$Call" "wasDuty" "Z" "DutyDesk",
  .fieldLinkNest "DutyDesk" 215 "DutyDesk$Call" "wasDuty" "Z" "DutyDesk",
  .fieldLinkNest "DutyDesk$Calls" 165 "DutyDesk$Call" "settled" "I" "DutyDesk",
  .fieldLinkNest "DutyDesk" 234 "DutyDesk$Call" "settled" "I" "DutyDesk",
  .methodLinkNest "DutyDesk" 9 ⟨"DutyDesk$Reader", "<init>", "()V"⟩ "DutyDesk",
  .methodLinkNest "DutyDesk" 18 ⟨"DutyDesk$Statutes", "<init>", "()V"⟩ "DutyDesk",
  .methodLinkNest "DutyDesk" 25 ⟨"DutyDesk$People", "<init>", "()V"⟩ "DutyDesk",
  .methodLinkNest "DutyDesk" 32 ⟨"DutyDesk$Nights", "<init>", "(LDutyDesk$People;LDutyDesk$Statutes;)V"⟩ "DutyDesk",
  .methodLinkNest "DutyDesk" 41 ⟨"DutyDesk$Planner", "<init>", "(LDutyDesk$People;LDutyDesk$Nights;)V"⟩ "DutyDesk",
  .methodLinkNest "DutyDesk" 50 ⟨"DutyDesk$Calls", "<init>", "(LDutyDesk$People;LDutyDesk$Statutes;LDutyDesk$Nights;)V"⟩ "DutyDesk",
  .methodLinkNest "DutyDesk" 61 ⟨"DutyDesk$Reader", "append", "(I)V"⟩ "DutyDesk",
  .methodLinkNest "DutyDesk" 72 ⟨"DutyDesk$People", "add", "(III)I"⟩ "DutyDesk",
  .methodLinkNest "DutyDesk" 76 ⟨"DutyDesk$People", "has", "(I)Z"⟩ "DutyDesk",
  .methodLinkNest "DutyDesk$People" 43 ⟨"DutyDesk", "isBelow", "(II)Z"⟩ "DutyDesk",
  .methodLinkNest "DutyDesk" 80 ⟨"DutyDesk$People", "isAway", "(II)Z"⟩ "DutyDesk",
  .methodLinkNest "DutyDesk$People" 47 ⟨"DutyDesk", "hasBit", "(II)Z"⟩ "DutyDesk",
  .methodLinkNest "DutyDesk" 83 ⟨"DutyDesk$People", "turnAway", "(II)V"⟩ "DutyDesk",
  .methodLinkNest "DutyDesk" 87 ⟨"DutyDesk$People", "isStruck", "(II)Z"⟩ "DutyDesk",
  .methodLinkNest "DutyDesk" 94 ⟨"DutyDesk$Nights", "passOn", "(II)I"⟩ "DutyDesk",
  .methodLinkNest "DutyDesk$Nights" 36 ⟨"DutyDesk$People", "isOn", "(II)Z"⟩ "DutyDesk",
  .methodLinkNest "DutyDesk$Nights" 42 ⟨"DutyDesk$People", "isThere", "(II)Z"⟩ "DutyDesk",
  .methodLinkNest "DutyDesk$Nights" 45 ⟨"DutyDesk$Statutes", "textNow", "(I)[I"⟩ "DutyDesk",
  .methodLinkNest "DutyDesk" 98 ⟨"DutyDesk$People", "minutesBetween", "(II)I"⟩ "DutyDesk",
  .methodLinkNest "DutyDesk" 101 ⟨"DutyDesk$People", "setMinutes", "(III)V"⟩ "DutyDesk",
  .methodLinkNest "DutyDesk" 120 ⟨"DutyDesk$Reader", "readTape", "()Z"⟩ "DutyDesk",
  .methodLinkNest "DutyDesk$Reader" 101 ⟨"DutyDesk", "hasBit", "(II)Z"⟩ "DutyDesk",
  .methodLinkNest "DutyDesk" 128 ⟨"DutyDesk$Statutes", "add", "([II)I"⟩ "DutyDesk",
  .methodLinkNest "DutyDesk" 137 ⟨"DutyDesk$Statutes", "canKnow", "(I)Z"⟩ "DutyDesk",
  .methodLinkNest "DutyDesk" 140 ⟨"DutyDesk$Statutes", "numberInForce", "(II)I"⟩ "DutyDesk",
  .methodLinkNest "DutyDesk" 143 ⟨"DutyDesk$Statutes", "text", "(I)[I"⟩ "DutyDesk",
  .methodLinkNest "DutyDesk" 146 ⟨"DutyDesk$Nights", "holder", "(II)I"⟩ "DutyDesk",
  .methodLinkNest "DutyDesk" 149 ⟨"DutyDesk$Nights", "put", "(III)V"⟩ "DutyDesk",
  .methodLinkNest "DutyDesk" 152 ⟨"DutyDesk$Nights", "mayHave", "(III)Z"⟩ "DutyDesk",
  .methodLinkNest "DutyDesk" 156 ⟨"DutyDesk$Planner", "makePlan", "(III)I"⟩ "DutyDesk",
  .methodLinkNest "DutyDesk$Planner" 65 ⟨"DutyDesk", "hasBit", "(II)Z"⟩ "DutyDesk",
  .methodLinkNest "DutyDesk$Planner" 68 ⟨"DutyDesk$Nights", "put", "(III)V"⟩ "DutyDesk",
  .methodLinkNest "DutyDesk$Planner" 45 ⟨"DutyDesk$People", "isOn", "(II)Z"⟩ "DutyDesk",
  .methodLinkNest "DutyDesk$Planner" 77 ⟨"DutyDesk$Nights", "mayHave", "(III)Z"⟩ "DutyDesk",
  .methodLinkNest "DutyDesk$Planner" 109 ⟨"DutyDesk$People", "has", "(I)Z"⟩ "DutyDesk",
  .methodLinkNest "DutyDesk" 165 ⟨"DutyDesk$Calls", "latestDay", "()I"⟩ "DutyDesk",
  .methodLinkNest "DutyDesk" 172 ⟨"DutyDesk$Call", "<init>", "(IIIIII)V"⟩ "DutyDesk",
  .methodLinkNest "DutyDesk" 175 ⟨"DutyDesk$Calls", "add", "(LDutyDesk$Call;)I"⟩ "DutyDesk",
  .methodLinkNest "DutyDesk" 178 ⟨"DutyDesk$Calls", "askNext", "(I)I"⟩ "DutyDesk",
  .methodLinkNest "DutyDesk$Calls" 60 ⟨"DutyDesk$Statutes", "textNow", "(I)[I"⟩ "DutyDesk",
  .methodLinkNest "DutyDesk$Calls" 73 ⟨"DutyDesk", "hasBit", "(II)Z"⟩ "DutyDesk",
  .methodLinkNest "DutyDesk$Calls" 119 ⟨"DutyDesk$People", "isOn", "(II)Z"⟩ "DutyDesk",
  .methodLinkNest "DutyDesk$Calls" 122 ⟨"DutyDesk$People", "isThere", "(II)Z"⟩ "DutyDesk",
  .methodLinkNest "DutyDesk$Calls" 128 ⟨"DutyDesk$People", "speaks", "(II)Z"⟩ "DutyDesk",
  .methodLinkNest "DutyDesk$Calls" 116 ⟨"DutyDesk$People", "minutesBetween", "(II)I"⟩ "DutyDesk",
  .methodLinkNest "DutyDesk$Calls" 144 ⟨"DutyDesk$Call", "isFellowOf", "(LDutyDesk$Call;)Z"⟩ "DutyDesk",
  .methodLinkNest "DutyDesk$Calls" 95 ⟨"DutyDesk$Call", "isForSame", "(LDutyDesk$Call;)Z"⟩ "DutyDesk",
  .methodLinkNest "DutyDesk$Calls" 79 ⟨"DutyDesk$Nights", "holder", "(II)I"⟩ "DutyDesk",
  .methodLinkNest "DutyDesk$Calls" 102 ⟨"DutyDesk$Nights", "tallyUpTo", "(I)[I"⟩ "DutyDesk",
  .methodLinkNest "DutyDesk" 182 ⟨"DutyDesk$Calls", "has", "(I)Z"⟩ "DutyDesk",
  .methodLinkNest "DutyDesk$Calls" 40 ⟨"DutyDesk", "isBelow", "(II)Z"⟩ "DutyDesk",
  .methodLinkNest "DutyDesk" 183 ⟨"DutyDesk$Calls", "get", "(I)LDutyDesk$Call;"⟩ "DutyDesk",
  .methodLinkNest "DutyDesk" 193 ⟨"DutyDesk$Calls", "take", "(I)V"⟩ "DutyDesk",
  .methodLinkNest "DutyDesk" 208 ⟨"DutyDesk$Statutes", "textNow", "(I)[I"⟩ "DutyDesk",
  .methodLinkNest "DutyDesk" 211 ⟨"DutyDesk$Call", "isLate", "([I)Z"⟩ "DutyDesk",
  .methodLinkNest "DutyDesk" 219 ⟨"DutyDesk$Calls", "reasonsAgainst", "(LDutyDesk$Call;II)I"⟩ "DutyDesk",
  .methodLinkNest "DutyDesk" 223 ⟨"DutyDesk$Statutes", "textKnown", "(II)[I"⟩ "DutyDesk",
  .methodLinkNest "DutyDesk" 227 ⟨"DutyDesk$Call", "sumDue", "([I)I"⟩ "DutyDesk",
  .methodLinkNest "DutyDesk" 231 ⟨"DutyDesk$Call", "lineDue", "([II)I"⟩ "DutyDesk",
  .methodLinkNest "DutyDesk" 237 ⟨"DutyDesk$Calls", "settledFor", "(I)I"⟩ "DutyDesk",
  .methodLinkNest "DutyDesk" 240 ⟨"DutyDesk$Nights", "allDuties", "()I"⟩ "DutyDesk",
  .methodLinkNest "DutyDesk" 243 ⟨"DutyDesk$Calls", "inState", "(I)I"⟩ "DutyDesk"]
def nestOk : Cond → Bool
  | .fieldLinkNest _ _ _ _ _ _ => true
  | .methodLinkNest _ _ _ _ => true
  | _ => false
theorem gnW_ok : ∀ w ∈ gnW, nestOk w = true := by decide +kernel
theorem nest_warm {w : Cond} (h : nestOk w = true) {s U : State} (hW : s.WarmedH U.vm) (hZ : va_Nw w s) : va_Nw w U := by
  cases w <;> first | exact va_Nw.warmF hW hZ | exact va_Nw.warmM hW hZ | exact Bool.noConfusion h
theorem nest_same {w : Cond} (h : nestOk w = true) {u U : State} (e : u.vm = U.vm) (hZ : va_Nw w u) : va_Nw w U := by
  cases w <;> first | exact va_Nw.same rfl e hZ | exact Bool.noConfusion h
def scO : List String := ["DutyDesk$Reader", "DutyDesk$Reader", "DutyDesk$Reader", "DutyDesk$Reader", "DutyDesk$Reader", "DutyDesk$Reader", "DutyDesk$Reader", "DutyDesk$Reader", "DutyDesk$Reader", "DutyDesk$Reader", "DutyDesk$Reader", "DutyDesk$Reader", "DutyDesk$Reader", "DutyDesk$Reader", "DutyDesk$Reader", "DutyDesk$Reader", "DutyDesk$Reader", "DutyDeskModel"]
def scK : List Nat := [140, 142, 144, 146, 148, 150, 152, 154, 156, 158, 160, 162, 164, 166, 168, 170, 172, 115]
def scT : List String := ["reach", "ask", "rest", "most", "night", "call", "minute", "late", "cap", "order", "bar", "nights", "calls", "near", "fellow", "against", "town", "reach ask rest most night call minute late cap order bar nights calls near fellow against town "]
def scL : List Nat := [5, 3, 4, 4, 5, 4, 6, 4, 3, 5, 3, 6, 5, 4, 6, 7, 4, 95]
def scB : List (List Int32) := [[114, 101, 97, 99, 104], [97, 115, 107], [114, 101, 115, 116], [109, 111, 115, 116], [110, 105, 103, 104, 116], [99, 97, 108, 108], [109, 105, 110, 117, 116, 101], [108, 97, 116, 101], [99, 97, 112], [111, 114, 100, 101, 114], [98, 97, 114], [110, 105, 103, 104, 116, 115], [99, 97, 108, 108, 115], [110, 101, 97, 114], [102, 101, 108, 108, 111, 119], [97, 103, 97, 105, 110, 115, 116], [116, 111, 119, 110], [114, 101, 97, 99, 104, 32, 97, 115, 107, 32, 114, 101, 115, 116, 32, 109, 111, 115, 116, 32, 110, 105, 103, 104, 116, 32, 99, 97, 108, 108, 32, 109, 105, 110, 117, 116, 101, 32, 108, 97, 116, 101, 32, 99, 97, 112, 32, 111, 114, 100, 101, 114, 32, 98, 97, 114, 32, 110, 105, 103, 104, 116, 115, 32, 99, 97, 108, 108, 115, 32, 110, 101, 97, 114, 32, 102, 101, 108, 108, 111, 119, 32, 97, 103, 97, 105, 110, 115, 116, 32, 116, 111, 119, 110, 32]]
def Gb (G : GP) (A : Nat → Prop) (U : State) (H : Heap) : Prop :=
  va_K G.1 vwCl (tyG G.2.1) U ∧ (∀ w ∈ gnW, va_Nw w U) ∧ va_Z "DutyDesk" "PLAIN_TEXT" "[I" (.ref G.2.2.1) A U H ∧ va_T .int G.2.2.1 12 (fun j => .int (plF j)) A U H ∧ va_Z "java/lang/String" "COMPACT_STRINGS" "Z" (.int 1) A U H ∧ va_Zq "jdk/internal/util/Preconditions" "SIOOBE_FORMATTER" "Ljava/util/function/BiFunction;" A U H ∧ vk_S 18 scL scB G.2.2.2.1 G.2.2.2.2 A U H ∧ ∀ i, i < 18 → vk_R (scO.getD i "") (scK.getD i 0) (scT.getD i "") (G.2.2.2.1 i) U
theorem Gb.go {G : GP} {A B : Nat → Prop} {s U : State} {H : Heap} {locs : List Loc} (h : Gb G A s s.heap) (hS : va_S A s.heap H locs) (hAB : ∀ q, B q → A q) (hU : U.heap = H) (hW : s.WarmedH U.vm) : Gb G B U U.heap := by
  obtain ⟨h1, h2, h3, h4, h5, h8, h6, h7⟩ := h
  subst hU
  exact ⟨va_K.moved hW.alike h1, fun w hw => nest_warm (gnW_ok w hw) hW (h2 w hw), va_Z.moved hW.alike ((h3.kept hS.2.1).narrow hAB), va_T.moved hW.alike ((h4.kept hS.2.1).narrow hAB), va_Z.moved hW.alike ((h5.kept hS.2.1).narrow hAB), va_Zq.moved hW.alike ((h8.kept hS.2.1).narrow hAB), vk_S.moved hW.alike ((h6.kept hS.2.1).narrow hAB), fun i hi => vk_R.warm hW (h7 i hi)⟩
theorem Gb.calling {G : GP} {A : Nat → Prop} {U : State} (g : JFrame) (mk : MethodId) (a : Array Value) (h : Gb G A U U.heap) : Gb G A (U.calling g mk a) (U.calling g mk a).heap := by
  obtain ⟨h1, h2, h3, h4, h5, h8, h6, h7⟩ := h
  exact ⟨va_K.moved (u := U) (U := U.calling g mk a) (Vm.Alike.refl U.vm) h1, fun w hw => nest_same (u := U) (U := U.calling g mk a) (gnW_ok w hw) rfl (h2 w hw), va_Z.moved (u := U) (U := U.calling g mk a) (Vm.Alike.refl U.vm) h3, va_T.moved (u := U) (U := U.calling g mk a) (Vm.Alike.refl U.vm) h4, va_Z.moved (u := U) (U := U.calling g mk a) (Vm.Alike.refl U.vm) h5, va_Zq.moved (u := U) (U := U.calling g mk a) (Vm.Alike.refl U.vm) h8, vk_S.moved (u := U) (U := U.calling g mk a) (Vm.Alike.refl U.vm) h6, fun i hi => vk_R.same (u := U) (U := U.calling g mk a) rfl (h7 i hi)⟩
def PW (G : GP) (W0 : va_W) (sz : Nat) (U : State) : Prop := U.heap.size = sz ∧ va_P G.1 vwCl W0 U.heap ∧ va_D (fun _ => True) W0 ∧ Gb G (va_A W0 sz) U U.heap
def QW (G : GP) (A : Nat → Prop) (W1 : va_W) (rv : Option Value) : Array Value → State → Outcome → State → Prop := fun _ st oc t => (oc = .returned rv ∧ va_P G.1 vwCl W1 t.heap ∧ va_D A W1) ∧ va_F A st t
/-- a contract: from the world W0 the method comes to W1, and answers rv -/
def MC (G : GP) (l : Launch) (y : MethodName) (ws : List Cond) (rm : Room) (av : List Value) (W0 W1 : va_W) (rv : Option Value) (mc ms : Nat) : Prop :=
  ∀ sz : Nat, Met l y ws rm (va_Pc av (PW G W0 sz)) (QW G (va_A W0 sz) W1 rv) mc ms (va_A W0 sz)
/-- the world within a method -/
def Wd (G : GP) (A : Nat → Prop) (s : State) (H : Heap) (locs : List Loc) (ws : va_W) : Prop := va_P G.1 vwCl ws H ∧ va_D A ws ∧ va_S A s.heap H locs
abbrev Fx (p : Program) (s : State) (m : MethodId) (av : List Value) (meth : Method) (c : Code) (y : MethodName) (ws : List Cond) (cc : ByteArray) (maxL : Nat) (ret : Option FieldType) : Prop :=
  p.tables.exec = Jvm.exec ∧ c.code = cc ∧ meth.sig.returnType = ret ∧ c.maxLocals = maxL ∧ s.vm.findClass y.cls = some m.cls ∧ meth.locks = false ∧ meth.name = y.name ∧ ∀ w ∈ ws, w.before av.toArray s = true
abbrev WQ (p : Program) (l : Launch) (e : Env) (rm : Room) (s : State) (m : MethodId) (av : List Value) (below : List Frame) (meth : Method) (c : Code) (G : GP) (A : Nat → Prop) (W1 : va_W) (rv : Option Value) (mc ms : Nat) (H : Heap) (locs : List Loc) (cells slots : Nat) (g : JFrame) : Prop :=
  W p l e rm s m av.toArray below meth c H locs cells slots (MQ below (QW G A W1 rv) av.toArray s mc ms A) g
theorem MC.mk {G : GP} {l : Launch} {y : MethodName} {ws ws' : List Cond} {rm : Room} {av : List Value} {W0 W1 : va_W} {rv : Option Value} {mc ms : Nat} {cc : ByteArray} {maxL : Nat} {ret : Option FieldType} (hy : plainName y.cls = true) (hw : ws = Cond.code y cc maxL ret :: ws') (hlen : (lg_sl av).length ≤ maxL)
    (body : ∀ (p : Program) (e : Env) (s : State) (m : MethodId) (below : List Frame) (meth : Method) (c : Code) (A : Nat → Prop) (ls : Array Slot), Fx p s m av meth c y ws cc maxL ret → Wd G A s s.heap [] W0 → Gb G A s s.heap → (∀ q : Nat, s.heap.size ≤ q → A q) → lv_has ls maxL (lv_args 0 av) → WQ p l e rm s m av below meth c G A W1 rv mc ms s.heap [] 0 0 (F0 m 0 ls [])) : MC G l y ws rm av W0 W1 rv mc ms := by
  intro sz
  refine Met.ofW (cc := cc) (maxL := maxL) (ret := ret) hy hw ?_
  intro p e s m args below meth c s₁ B hml hv
  obtain ⟨rfl, hsz, hP, hD0, hG⟩ := hv
  subst hsz
  have hl := lv_entry av (n := maxL) hlen
  rw [lg_entry_eq]
  exact body p e s m below meth c _ _ ⟨B.exec, B.bytes, B.returns, hml, findClass_of_methodNamed B.named, B.notSynchronized, (name_of_methodNamed B.named B.method).1, atoms_spec (ws := ws) B.pre⟩ ⟨hP, hD0.self, va_S.rf⟩ hG (fun q h => Or.inr h) hl
theorem pw_blind {G : GP} {W0 : va_W} {sz : Nat} {av : List Value} : FrameBlind (va_Pc av (PW G W0 sz)) := by
  intro a U g mk h
  obtain ⟨h0, h1, h2, h3, h4⟩ := h
  exact ⟨h0, h1, h2, h3, h4.calling g mk a⟩
section OWN
variable {p : Program} {l : Launch} {e : Env} {R : Room} {s : State} {m : MethodId} {args : Array Value} {below : List Frame} {meth : Method} {c : Code} {H : Heap} {locs : List Loc} {cells slots : Nat} {Q : State → Prop} {cc : ByteArray} {pc : Nat} {ls : Array Slot} {rest st0 : List Value} {G : GP} {A : Nat → Prop} {W0 W1 : va_W} {rv : Option Value} {mc ms : Nat}
theorem wd_free (hA : ∀ q : Nat, s.heap.size ≤ q → A q) (hw : Wd G A s H locs W0) : ∀ q, va_A W0 H.size q → A q := by
  intro q h
  rcases h with ⟨k, e, h⟩ | h
  · exact hw.2.1.2 k _ h
  · exact hA q (Nat.le_trans hw.2.2.1 h)
theorem pw_at (hA : ∀ q : Nat, s.heap.size ≤ q → A q) (hw : Wd G A s H locs W0) (hG : Gb G A s s.heap) {av : List Value} (U : State) (hU : U.heap = H) (hW : s.WarmedH U.vm) : va_Pc av (PW G W0 H.size) av.toArray U :=
  ⟨rfl, by rw [hU], by rw [hU]; exact hw.1, hw.2.1.weaken (fun _ _ _ _ => trivial), hG.go hw.2.2 (wd_free hA hw) hU hW⟩
theorem wd_call {a : Array Value} (hA : ∀ q : Nat, s.heap.size ≤ q → A q) (hw : Wd G A s H locs W0) (hr : va_Run p l e R s m args below meth c H locs cells slots mc ms (F0 m pc ls st0) rest (QW G (va_A W0 H.size) W1 rv a) (va_A W0 H.size))
    (kk : ∀ (H1 : Heap) (locs1 : List Loc), Wd G A s H1 locs1 W1 → W p l e R s m args below meth c H1 locs1 (cells + mc) (slots + ms) Q (F0 m (pc + 3) ls (rv.toList ++ rest))) : W p l e R s m args below meth c H locs cells slots Q (F0 m pc ls st0) := by
  intro T hT X
  obtain ⟨v, st₀, t, T', L, h0, X', hL, e1, e2, ⟨⟨hv, hP1, hD1⟩, hz, hk⟩, st⟩ := hr T hT X
  cases hv
  have hF := wd_free hA hw
  obtain ⟨hP, hD, hS⟩ := hw
  rw [h0] at hz hk
  obtain ⟨t2, a1, b1⟩ := kk T'.heap (locs ++ L) ⟨by rw [e1]; exact hP1, hD1.weaken (fun _ q _ h => hF q.1 h),
    ⟨Nat.le_trans hS.1 (by rw [e1]; exact hz), fun q h1 h2 => by rw [e1, hk q (Nat.lt_of_lt_of_le h1 hS.1) (fun z => h2 (hF q z))]; exact hS.2.1 q h1 h2, fun q hq => by
      rcases List.mem_append.mp hq with h | h
      · exact hS.2.2 q h
      · exact hF _ (hL q h)⟩⟩ T' rfl X'
  exact ⟨t2, st t2 a1, b1⟩
variable {y : MethodName} {bytes : ByteArray} {maxL nL n index : Nat} {ret : Option FieldType} {ws : List Cond} {rm : Room} {Ts : List Cond} {own C host : String} {b : Addr} {As : List Value}
theorem cV (F : CallFix p m c cc nL s args Ts own) (hG : Gb G A s s.heap) (hA : ∀ q : Nat, s.heap.size ≤ q → A q) (hw : Wd G A s H locs W0) (ct : MC G l y ws rm (.ref b :: As) W0 W1 rv mc ms) (cw : CallW R s args own C index y bytes maxL ret ws rm mc ms n)
    (hrecv : ∃ cell : Cell, H[b]? = some cell ∧ cell.vm.isStatics = false ∧ s.vm.findClass C = some cell.cls) (hn : As.length = n) (hsize : ls.size = nL) (hst : st0 = As.reverse ++ .ref b :: rest) (hW : (rest.map fun v => v.category).sum ≤ 8) (hdg : decode cc pc = .ok (.invokevirtual index, 3)) (hf : cells + mc ≤ R.cells ∧ slots + ms ≤ R.slots)
    (kk : ∀ (H1 : Heap) (locs1 : List Loc), Wd G A s H1 locs1 W1 → W p l e R s m args below meth c H1 locs1 (cells + mc) (slots + ms) Q (F0 m (pc + 3) ls (rv.toList ++ rest))) : W p l e R s m args below meth c H locs cells slots Q (F0 m pc ls st0) :=
  wd_call hA hw (va_runV F (ct H.size) cw ⟨pw_blind, hrecv, fun U hU hW => pw_at hA hw hG U hU hW⟩ rfl hn hsize hst (lv_room hW) hdg hf) kk
theorem cVN (F : CallFix p m c cc nL s args Ts own) (hG : Gb G A s s.heap) (hA : ∀ q : Nat, s.heap.size ≤ q → A q) (hw : Wd G A s H locs W0) (ct : MC G l y ws rm (.ref b :: As) W0 W1 rv mc ms) (cw : va_CN R s args own index y host bytes maxL ret ws rm mc ms n ∧ (Cond.instanceMethod y).before args s = true ∧ (Cond.selects C y y).before args s = true)
    (hrecv : ∃ cell : Cell, H[b]? = some cell ∧ cell.vm.isStatics = false ∧ s.vm.findClass C = some cell.cls) (hn : As.length = n) (hsize : ls.size = nL) (hst : st0 = As.reverse ++ .ref b :: rest) (hW : (rest.map fun v => v.category).sum ≤ 8) (hdg : decode cc pc = .ok (.invokevirtual index, 3)) (hf : cells + mc ≤ R.cells ∧ slots + ms ≤ R.slots)
    (kk : ∀ (H1 : Heap) (locs1 : List Loc), Wd G A s H1 locs1 W1 → W p l e R s m args below meth c H1 locs1 (cells + mc) (slots + ms) Q (F0 m (pc + 3) ls (rv.toList ++ rest))) : W p l e R s m args below meth c H locs cells slots Q (F0 m pc ls st0) :=
  wd_call hA hw (va_runVN F (ct H.size) cw ⟨pw_blind, hrecv, fun U hU hW => pw_at hA hw hG U hU hW⟩ rfl hn hsize hst (lv_room hW) hdg hf) kk
theorem cS (F : CallFix p m c cc nL s args Ts own) (hG : Gb G A s s.heap) (hA : ∀ q : Nat, s.heap.size ≤ q → A q) (hw : Wd G A s H locs W0) (ct : MC G l y ws rm As W0 W1 rv mc ms) (cw : CallB R s args own index y bytes maxL ret ws rm mc ms n ∧ (Cond.static y).before args s = true)
    (hn : As.length = n) (hsize : ls.size = nL) (hst : st0 = As.reverse ++ rest) (hW : (rest.map fun v => v.category).sum ≤ 8) (hdg : decode cc pc = .ok (.invokestatic index, 3)) (hf : cells + mc ≤ R.cells ∧ slots + ms ≤ R.slots)
    (kk : ∀ (H1 : Heap) (locs1 : List Loc), Wd G A s H1 locs1 W1 → W p l e R s m args below meth c H1 locs1 (cells + mc) (slots + ms) Q (F0 m (pc + 3) ls (rv.toList ++ rest))) : W p l e R s m args below meth c H locs cells slots Q (F0 m pc ls st0) :=
  wd_call hA hw (va_runS F (ct H.size) cw ⟨pw_blind, fun U hU hW => pw_at hA hw hG U hU hW⟩ rfl hn hsize hst (lv_room hW) hdg hf) kk
theorem cSN (F : CallFix p m c cc nL s args Ts own) (hG : Gb G A s s.heap) (hA : ∀ q : Nat, s.heap.size ≤ q → A q) (hw : Wd G A s H locs W0) (ct : MC G l y ws rm As W0 W1 rv mc ms) (cw : va_CN R s args own index y host bytes maxL ret ws rm mc ms n ∧ (Cond.static y).before args s = true ∧ True)
    (hn : As.length = n) (hsize : ls.size = nL) (hst : st0 = As.reverse ++ rest) (hW : (rest.map fun v => v.category).sum ≤ 8) (hdg : decode cc pc = .ok (.invokestatic index, 3)) (hf : cells + mc ≤ R.cells ∧ slots + ms ≤ R.slots)
    (kk : ∀ (H1 : Heap) (locs1 : List Loc), Wd G A s H1 locs1 W1 → W p l e R s m args below meth c H1 locs1 (cells + mc) (slots + ms) Q (F0 m (pc + 3) ls (rv.toList ++ rest))) : W p l e R s m args below meth c H locs cells slots Q (F0 m pc ls st0) :=
  wd_call hA hw (va_runSN F (ct H.size) cw ⟨pw_blind, fun U hU hW => pw_at hA hw hG U hU hW⟩ rfl hn hsize hst (lv_room hW) hdg hf) kk
theorem cI (F : CallFix p m c cc nL s args Ts own) (hG : Gb G A s s.heap) (hA : ∀ q : Nat, s.heap.size ≤ q → A q) (hw : Wd G A s H locs W0) (ct : MC G l y ws rm (.ref b :: As) W0 W1 rv mc ms) (cw : CallB R s args own index y bytes maxL none ws rm mc ms n ∧ y.name = "<init>" ∧ (Cond.instanceMethod y).before args s = true)
    (hn : As.length = n) (hsize : ls.size = nL) (hst : st0 = As.reverse ++ .ref b :: rest) (hW : (rest.map fun v => v.category).sum ≤ 8) (hdg : decode cc pc = .ok (.invokespecial index, 3)) (hf : cells + mc ≤ R.cells ∧ slots + ms ≤ R.slots)
    (kk : ∀ (H1 : Heap) (locs1 : List Loc), Wd G A s H1 locs1 W1 → W p l e R s m args below meth c H1 locs1 (cells + mc) (slots + ms) Q (F0 m (pc + 3) ls (rv.toList ++ rest))) : W p l e R s m args below meth c H locs cells slots Q (F0 m pc ls st0) :=
  wd_call hA hw (va_runI F (ct H.size) cw ⟨pw_blind, fun U hU hW => pw_at hA hw hG U hU hW⟩ rfl hn hsize hst (lv_room hW) hdg hf) kk
theorem cIN (F : CallFix p m c cc nL s args Ts own) (hG : Gb G A s s.heap) (hA : ∀ q : Nat, s.heap.size ≤ q → A q) (hw : Wd G A s H locs W0) (ct : MC G l y ws rm (.ref b :: As) W0 W1 rv mc ms) (cw : va_CN R s args own index y host bytes maxL none ws rm mc ms n ∧ y.name = "<init>" ∧ (Cond.instanceMethod y).before args s = true)
    (hn : As.length = n) (hsize : ls.size = nL) (hst : st0 = As.reverse ++ .ref b :: rest) (hW : (rest.map fun v => v.category).sum ≤ 8) (hdg : decode cc pc = .ok (.invokespecial index, 3)) (hf : cells + mc ≤ R.cells ∧ slots + ms ≤ R.slots)
    (kk : ∀ (H1 : Heap) (locs1 : List Loc), Wd G A s H1 locs1 W1 → W p l e R s m args below meth c H1 locs1 (cells + mc) (slots + ms) Q (F0 m (pc + 3) ls (rv.toList ++ rest))) : W p l e R s m args below meth c H locs cells slots Q (F0 m pc ls st0) :=
  wd_call hA hw (va_runIN F (ct H.size) cw ⟨pw_blind, fun U hU hW => pw_at hA hw hG U hU hW⟩ rfl hn hsize hst (lv_room hW) hdg hf) kk
theorem wd_iret {v : Int32} (hx : p.tables.exec = Jvm.exec) (hb : c.code = cc) (hr : meth.sig.returnType = some .int) (hlocks : meth.locks = false) (hw : Wd G A s H locs W1) (hdg : decode cc pc = .ok (.ireturn, 1)) : W p l e R s m args below meth c H locs cells slots (MQ below (QW G A W1 (some (.int v))) args s cells slots A) (F0 m pc ls [.int v]) :=
  W.iret hx hb hr (fun t ht hW => ⟨⟨rfl, by rw [ht]; exact hw.1, hw.2.1⟩, hw.2.2.F ht⟩) hw.2.2.2.2 hdg hlocks
theorem wd_zret {v : Int32} {ty : FieldType} (hx : p.tables.exec = Jvm.exec) (hb : c.code = cc) (hr : meth.sig.returnType = some ty) (hn : narrow ty (.int v) = .int v) (hlocks : meth.locks = false) (hw : Wd G A s H locs W1) (hdg : decode cc pc = .ok (.ireturn, 1)) : W p l e R s m args below meth c H locs cells slots (MQ below (QW G A W1 (some (.int v))) args s cells slots A) (F0 m pc ls [.int v]) :=
  W.zret hx hb hr hn (fun t ht hW => ⟨⟨rfl, by rw [ht]; exact hw.1, hw.2.1⟩, hw.2.2.F ht⟩) hw.2.2.2.2 hdg hlocks
theorem wd_lret {v : Int64} (hx : p.tables.exec = Jvm.exec) (hb : c.code = cc) (hr : meth.sig.returnType = some .long) (hlocks : meth.locks = false) (hw : Wd G A s H locs W1) (hdg : decode cc pc = .ok (.lreturn, 1)) : W p l e R s m args below meth c H locs cells slots (MQ below (QW G A W1 (some (.long v))) args s cells slots A) (F0 m pc ls [.long v]) :=
  W.lret hx hb hr (fun t ht hW => ⟨⟨rfl, by rw [ht]; exact hw.1, hw.2.1⟩, hw.2.2.F ht⟩) hw.2.2.2.2 hdg hlocks
theorem wd_vret (hx : p.tables.exec = Jvm.exec) (hb : c.code = cc) (hr : meth.sig.returnType = none) (hlocks : meth.locks = false) (hw : Wd G A s H locs W1) (hdg : decode cc pc = .ok (.return_, 1)) : W p l e R s m args below meth c H locs cells slots (MQ below (QW G A W1 none) args s cells slots A) (F0 m pc ls []) :=
  W.vret hx hb hr (fun t ht hW => ⟨⟨rfl, by rw [ht]; exact hw.1, hw.2.1⟩, hw.2.2.F ht⟩) hw.2.2.2.2 hdg hlocks
theorem wd_aret {a : Nat} {rt : FieldType} (hx : p.tables.exec = Jvm.exec) (hb : c.code = cc) (hr : meth.sig.returnType = some rt) (hrt : (∃ n, rt = .object n) ∨ ∃ t, rt = .array t) (hlocks : meth.locks = false) (hw : Wd G A s H locs W1) (hdg : decode cc pc = .ok (.areturn, 1)) : W p l e R s m args below meth c H locs cells slots (MQ below (QW G A W1 (some (.ref a))) args s cells slots A) (F0 m pc ls [.ref a]) :=
  W.aret hx hb hr hrt (Or.inr ⟨a, rfl⟩) (fun t ht hW => ⟨⟨rfl, by rw [ht]; exact hw.1, hw.2.1⟩, hw.2.2.F ht⟩) hw.2.2.2.2 hdg hlocks
end OWN
