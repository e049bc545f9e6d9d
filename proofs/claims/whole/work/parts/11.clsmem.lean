/-! the class's memory: tag 8 j the single things, 8 i + 1 the men, + 2 the treasures, + 3 and + 4 their rows, + 5 the debts; c: how many there are -/
def cS (c ad : Nat → Nat) (σ : zS) (j : Nat) : Option zE := if 19 ≤ j ∧ j < 26 then some (.inl (.int, 256, .inl (σ j))) else match j with
  | 0 => some (.inr (7, [.ref (ad 8), .ref (ad 24), .ref (ad 48), .ref (ad 56), .ref (ad 64), .ref (ad 80), .ref (ad 144), .int (σ 30 0), .int (σ 31 0), .int (σ 32 0), .int (σ 33 0)]))
  | 1 => some (.inr (5, [.ref (ad 16), .int (σ 34 0)]))
  | 2 => some (.inl (.int, 40, .inl (σ 2)))
  | 3 => some (.inr (0, [.ref (ad 32), .ref (ad 40)]))
  | 4 => some (.inl (.int, 4, .inl (σ 4)))
  | 5 => some (.inl (.int, 4, .inl (σ 5)))
  | 6 => some (.inl (.object "GiftRing$Man", 16, .inr (.inr (.inr (.inr (fun i => if i < c 3 then some (ad (8 * i + 1)) else none))))))
  | 7 => some (.inl (.object "GiftRing$Treasure", 24, .inr (.inr (.inr (.inr (fun i => if i < c 4 then some (ad (8 * i + 2)) else none))))))
  | 8 => some (.inr (2, [.ref (ad 72), .int (σ 35 0)]))
  | 9 => some (.inl (.object "GiftRing$Debt", 200, .inr (.inr (.inr (.inr (fun i => if i < c 5 then some (ad (8 * i + 5)) else none))))))
  | 10 => some (.inr (4, [.ref (ad 88), .ref (ad 96), .ref (ad 104), .int (σ 36 0), .ref (ad 112), .ref (ad 120), .int (σ 37 0), .ref (ad 128), .ref (ad 136)]))
  | 11 => some (.inl (.int, 8, .inl (σ 11)))
  | 12 => some (.inl (.int, 8, .inl (σ 12)))
  | 13 => some (.inl (.int, 8, .inl (σ 13)))
  | 14 => some (.inl (.int, 6, .inl (σ 14)))
  | 15 => some (.inl (.int, 6, .inl (σ 15)))
  | 16 => some (.inl (.array .int, 7, .inr (.inr (.inr (.inr (fun i => if i < 7 then some (ad (8 * (19 + i))) else none))))))
  | 17 => some (.inl (.int, 6, .inl (σ 17)))
  | 18 => some (.inl (.int, 16, .inl (σ 18)))
  | _ => none
def cMan (σ : zS) (i : Nat) : List Value := [.int (σ 40 i), .int (σ 41 i), .int (σ 42 i), .int (σ 43 i)]
def cTr (ad : Nat → Nat) (σ : zS) (i : Nat) : List Value := [.int (σ 50 i), .int (σ 51 i), .int (σ 52 i), .int (σ 53 i), .int (σ 54 i), .int (σ 55 i), .int (σ 56 i), .ref (ad (8 * i + 3)), .ref (ad (8 * i + 4)), .int (σ 57 i)]
def cDb (σ : zS) (i : Nat) : List Value := [.int (σ 60 i), .int (σ 61 i), .int (σ 62 i), .int (σ 63 i), .int (σ 64 i), .int (σ 65 i), .int (σ 66 i), .int (σ 67 i)]
def cC (c ad : Nat → Nat) (σ : zS) (t : Nat) : Option zE :=
  if t % 8 = 0 then cS c ad σ (t / 8)
  else if t % 8 = 1 then (if t / 8 < c 0 then some (.inr (3, cMan σ (t / 8))) else none)
  else if t % 8 = 2 then (if t / 8 < c 1 then some (.inr (6, cTr ad σ (t / 8))) else none)
  else if t % 8 = 3 then (if t / 8 < c 1 then some (.inl (.int, 80, .inl (σ (1000 + 2 * (t / 8))))) else none)
  else if t % 8 = 4 then (if t / 8 < c 1 then some (.inl (.int, 80, .inl (σ (1001 + 2 * (t / 8))))) else none)
  else if t % 8 = 5 then (if t / 8 < c 2 then some (.inr (1, cDb σ (t / 8))) else none)
  else none
def cL (c : Nat → Nat) (t : Nat) : Prop :=
  (t % 8 = 0 ∧ t / 8 < 26) ∨ (t % 8 = 1 ∧ t / 8 < c 0) ∨ (t % 8 = 2 ∧ t / 8 < c 1) ∨ (t % 8 = 3 ∧ t / 8 < c 1) ∨ (t % 8 = 4 ∧ t / 8 < c 1) ∨ (t % 8 = 5 ∧ t / 8 < c 2)
def mC (c ad dec : Nat → Nat) (σ : zS) : zM := fun b => cC c ad σ (dec b)
def cG (c ad dec : Nat → Nat) : Prop := (∀ t, cL c t → dec (ad t) = t) ∧ (∀ b, cL c (dec b) → ad (dec b) = b) ∧ ∀ b, cL c (dec b) ∨ dec b = 7
theorem mC_at {c ad dec : Nat → Nat} (hG : cG c ad dec) {σ : zS} {t : Nat} (hl : cL c t) : mC c ad dec σ (ad t) = cC c ad σ t := by
  unfold mC
  rw [hG.1 t hl]
theorem mC_set {c ad dec : Nat → Nat} (hG : cG c ad dec) {σ σ' : zS} {t : Nat} {e : zE} (hl : cL c t) (he : cC c ad σ' t = some e) (ho : ∀ t', t' ≠ t → cC c ad σ' t' = cC c ad σ t') : zUp (mC c ad dec σ) (ad t) e = mC c ad dec σ' := by
  funext b
  by_cases hb : b = ad t
  · subst hb
    rw [zUp_self, mC_at hG hl, he]
  · rw [zUp_ne hb]
    refine (ho (dec b) (fun h => hb ?_)).symm
    rw [← h]
    exact (hG.2.1 b (by rw [h]; exact hl)).symm
theorem cC_man {c ad : Nat → Nat} {σ : zS} {i : Nat} (hi : i < c 0) : cC c ad σ (8 * i + 1) = some (.inr (3, cMan σ i)) := by
  unfold cC
  rw [if_neg (by omega), if_pos (by omega), show (8 * i + 1) / 8 = i by omega, if_pos hi]
theorem cC_tr {c ad : Nat → Nat} {σ : zS} {i : Nat} (hi : i < c 1) : cC c ad σ (8 * i + 2) = some (.inr (6, cTr ad σ i)) := by
  unfold cC
  rw [if_neg (by omega), if_neg (by omega), if_pos (by omega), show (8 * i + 2) / 8 = i by omega, if_pos hi]
theorem cC_hb {c ad : Nat → Nat} {σ : zS} {i : Nat} (hi : i < c 1) : cC c ad σ (8 * i + 3) = some (.inl (.int, 80, .inl (σ (1000 + 2 * i)))) := by
  unfold cC
  rw [if_neg (by omega), if_neg (by omega), if_neg (by omega), if_pos (by omega), show (8 * i + 3) / 8 = i by omega, if_pos hi]
theorem cC_hf {c ad : Nat → Nat} {σ : zS} {i : Nat} (hi : i < c 1) : cC c ad σ (8 * i + 4) = some (.inl (.int, 80, .inl (σ (1001 + 2 * i)))) := by
  unfold cC
  rw [if_neg (by omega), if_neg (by omega), if_neg (by omega), if_neg (by omega), if_pos (by omega), show (8 * i + 4) / 8 = i by omega, if_pos hi]
theorem cC_db {c ad : Nat → Nat} {σ : zS} {i : Nat} (hi : i < c 2) : cC c ad σ (8 * i + 5) = some (.inr (1, cDb σ i)) := by
  unfold cC
  rw [if_neg (by omega), if_neg (by omega), if_neg (by omega), if_neg (by omega), if_neg (by omega), if_pos (by omega), show (8 * i + 5) / 8 = i by omega, if_pos hi]
theorem cC_bt {c ad : Nat → Nat} {σ : zS} {i : Nat} (hi : i < 7) : cC c ad σ (8 * (19 + i)) = some (.inl (.int, 256, .inl (σ (19 + i)))) := by
  unfold cC
  rw [if_pos (by omega), show (8 * (19 + i)) / 8 = 19 + i by omega]
  unfold cS
  rw [if_pos (by omega)]
theorem cC_eq {c ad : Nat → Nat} {σ σ' : zS} {t : Nat} (h0 : t % 8 = 0 → cS c ad σ (t / 8) = cS c ad σ' (t / 8)) (h1 : t % 8 = 1 → ∀ k, 40 ≤ k → k ≤ 43 → σ k (t / 8) = σ' k (t / 8)) (h2 : t % 8 = 2 → ∀ k, 50 ≤ k → k ≤ 57 → σ k (t / 8) = σ' k (t / 8)) (h3 : t % 8 = 3 → σ (1000 + 2 * (t / 8)) = σ' (1000 + 2 * (t / 8))) (h4 : t % 8 = 4 → σ (1001 + 2 * (t / 8)) = σ' (1001 + 2 * (t / 8))) (h5 : t % 8 = 5 → ∀ k, 60 ≤ k → k ≤ 67 → σ k (t / 8) = σ' k (t / 8)) : cC c ad σ t = cC c ad σ' t := by
  unfold cC
  by_cases e0 : t % 8 = 0
  · rw [if_pos e0, if_pos e0, h0 e0]
  rw [if_neg e0, if_neg e0]
  by_cases e1 : t % 8 = 1
  · rw [if_pos e1, if_pos e1]
    have : cMan σ (t / 8) = cMan σ' (t / 8) := by
      unfold cMan
      rw [h1 e1 40 (by omega) (by omega), h1 e1 41 (by omega) (by omega), h1 e1 42 (by omega) (by omega), h1 e1 43 (by omega) (by omega)]
    rw [this]
  rw [if_neg e1, if_neg e1]
  by_cases e2 : t % 8 = 2
  · rw [if_pos e2, if_pos e2]
    have : cTr ad σ (t / 8) = cTr ad σ' (t / 8) := by
      unfold cTr
      rw [h2 e2 50 (by omega) (by omega), h2 e2 51 (by omega) (by omega), h2 e2 52 (by omega) (by omega), h2 e2 53 (by omega) (by omega), h2 e2 54 (by omega) (by omega), h2 e2 55 (by omega) (by omega), h2 e2 56 (by omega) (by omega), h2 e2 57 (by omega) (by omega)]
    rw [this]
  rw [if_neg e2, if_neg e2]
  by_cases e3 : t % 8 = 3
  · rw [if_pos e3, if_pos e3, h3 e3]
  rw [if_neg e3, if_neg e3]
  by_cases e4 : t % 8 = 4
  · rw [if_pos e4, if_pos e4, h4 e4]
  rw [if_neg e4, if_neg e4]
  by_cases e5 : t % 8 = 5
  · rw [if_pos e5, if_pos e5]
    have : cDb σ (t / 8) = cDb σ' (t / 8) := by
      unfold cDb
      rw [h5 e5 60 (by omega) (by omega), h5 e5 61 (by omega) (by omega), h5 e5 62 (by omega) (by omega), h5 e5 63 (by omega) (by omega), h5 e5 64 (by omega) (by omega), h5 e5 65 (by omega) (by omega), h5 e5 66 (by omega) (by omega), h5 e5 67 (by omega) (by omega)]
    rw [this]
  rw [if_neg e5, if_neg e5]
/-- which single thing a row below 40 belongs to -/
def cOw (k : Nat) : Nat := if k = 30 then 0 else if k = 31 then 0 else if k = 32 then 0 else if k = 33 then 0 else if k = 34 then 1 else if k = 35 then 8 else if k = 36 then 10 else if k = 37 then 10 else k
theorem cS_eq {c ad : Nat → Nat} {σ σ' : zS} {j : Nat} (h : ∀ k, cOw k = j → k < 40 → σ k = σ' k) : cS c ad σ j = cS c ad σ' j := by
  unfold cS
  by_cases hb : 19 ≤ j ∧ j < 26
  · rw [if_pos hb, if_pos hb, h j (by unfold cOw; repeat (rw [if_neg (by omega)])) (by omega)]
  · rw [if_neg hb, if_neg hb]
    match j, h with
    | 0, h => rw [h 30 rfl (by decide), h 31 rfl (by decide), h 32 rfl (by decide), h 33 rfl (by decide)]; rfl
    | 1, h => rw [h 34 rfl (by decide)]; rfl
    | 2, h => rw [h 2 rfl (by decide)]; rfl
    | 3, _ => rfl
    | 4, h => rw [h 4 rfl (by decide)]; rfl
    | 5, h => rw [h 5 rfl (by decide)]; rfl
    | 6, _ => rfl
    | 7, _ => rfl
    | 8, h => rw [h 35 rfl (by decide)]; rfl
    | 9, _ => rfl
    | 10, h => rw [h 36 rfl (by decide), h 37 rfl (by decide)]; rfl
    | 11, h => rw [h 11 rfl (by decide)]; rfl
    | 12, h => rw [h 12 rfl (by decide)]; rfl
    | 13, h => rw [h 13 rfl (by decide)]; rfl
    | 14, h => rw [h 14 rfl (by decide)]; rfl
    | 15, h => rw [h 15 rfl (by decide)]; rfl
    | 16, _ => rfl
    | 17, h => rw [h 17 rfl (by decide)]; rfl
    | 18, h => rw [h 18 rfl (by decide)]; rfl
    | j + 26, _ => rfl
    | 19, _ => rfl
    | 20, _ => rfl
    | 21, _ => rfl
    | 22, _ => rfl
    | 23, _ => rfl
    | 24, _ => rfl
    | 25, _ => rfl
theorem zs_off {σ : zS} {k i a b : Nat} {v : Int32} (h : a ≠ k ∨ b ≠ i) : zs σ k i v a b = σ a b := by
  unfold zs
  by_cases ha : a = k
  · rw [if_pos ha]
    subst ha
    rcases h with h | h
    · exact absurd rfl h
    · exact pk_un h
  · rw [if_neg ha]
theorem cC_off1 {c ad : Nat → Nat} {σ : zS} {k i : Nat} {v : Int32} (hk : k < 40) : ∀ t', t' ≠ 8 * cOw k → cC c ad (zs σ k i v) t' = cC c ad σ t' := by
  intro t' ht
  refine cC_eq (fun e => cS_eq (fun k' hk' h40 => zs_ne _ _ _ (fun q => ht ?_))) (fun _ k' a b => zs_off (Or.inl (by omega))) (fun _ k' a b => zs_off (Or.inl (by omega))) (fun _ => zs_ne _ _ _ (by omega)) (fun _ => zs_ne _ _ _ (by omega)) (fun _ k' a b => zs_off (Or.inl (by omega)))
  rw [← q, hk']
  omega
theorem cC_off2 {c ad : Nat → Nat} {σ : zS} {k i kd : Nat} {v : Int32} (hk : (kd = 1 ∧ 40 ≤ k ∧ k ≤ 43) ∨ (kd = 2 ∧ 50 ≤ k ∧ k ≤ 57) ∨ (kd = 5 ∧ 60 ≤ k ∧ k ≤ 67)) : ∀ t', t' ≠ 8 * i + kd → cC c ad (zs σ k i v) t' = cC c ad σ t' := by
  intro t' ht
  refine cC_eq (fun e => cS_eq (fun k' hk' h40 => zs_ne _ _ _ (by omega))) (fun _ k' a b => zs_off (by omega)) (fun _ k' a b => zs_off (by omega)) (fun _ => zs_ne _ _ _ (by omega)) (fun _ => zs_ne _ _ _ (by omega)) (fun _ k' a b => zs_off (by omega))
def rv (ad : Nat → Nat) (kd : Nat) (o : Option Nat) : Value := match o with
  | none => .null
  | some i => .ref (ad (8 * i + kd))
theorem rv_or (ad : Nat → Nat) (kd : Nat) (o : Option Nat) : rv ad kd o = .null ∨ ∃ a, rv ad kd o = .ref a := by
  cases o with
  | none => exact Or.inl rfl
  | some i => exact Or.inr ⟨_, rfl⟩
def zo (N : Nat) (i : Int32) : Option Nat := if i.toNatClampNeg < N then some i.toNatClampNeg else none
def zopt {α β : Type} (o : Option α) (a : β) (f : α → β) : β := match o with
  | none => a
  | some x => f x
theorem zopt_n {α β : Type} {a r : β} {f : α → β} (h : zopt none a f = r) : a = r := h
theorem zopt_s {α β : Type} {x : α} {a r : β} {f : α → β} (h : zopt (some x) a f = r) : f x = r := h
theorem eC_0 {c ad dec : Nat → Nat} (hG : cG c ad dec) {σ : zS} : mC c ad dec σ (ad 0) = some (.inr (7, [.ref (ad 8), .ref (ad 24), .ref (ad 48), .ref (ad 56), .ref (ad 64), .ref (ad 80), .ref (ad 144), .int (σ 30 0), .int (σ 31 0), .int (σ 32 0), .int (σ 33 0)])) := by
  rw [mC_at hG (Or.inl ⟨rfl, by decide⟩)]
  rfl
theorem eC_1 {c ad dec : Nat → Nat} (hG : cG c ad dec) {σ : zS} : mC c ad dec σ (ad 8) = some (.inr (5, [.ref (ad 16), .int (σ 34 0)])) := by
  rw [mC_at hG (Or.inl ⟨rfl, by decide⟩)]
  rfl
theorem eC_2 {c ad dec : Nat → Nat} (hG : cG c ad dec) {σ : zS} : mC c ad dec σ (ad 16) = some (.inl (.int, 40, .inl (σ 2))) := by
  rw [mC_at hG (Or.inl ⟨rfl, by decide⟩)]
  rfl
theorem eC_3 {c ad dec : Nat → Nat} (hG : cG c ad dec) {σ : zS} : mC c ad dec σ (ad 24) = some (.inr (0, [.ref (ad 32), .ref (ad 40)])) := by
  rw [mC_at hG (Or.inl ⟨rfl, by decide⟩)]
  rfl
theorem eC_4 {c ad dec : Nat → Nat} (hG : cG c ad dec) {σ : zS} : mC c ad dec σ (ad 32) = some (.inl (.int, 4, .inl (σ 4))) := by
  rw [mC_at hG (Or.inl ⟨rfl, by decide⟩)]
  rfl
theorem eC_5 {c ad dec : Nat → Nat} (hG : cG c ad dec) {σ : zS} : mC c ad dec σ (ad 40) = some (.inl (.int, 4, .inl (σ 5))) := by
  rw [mC_at hG (Or.inl ⟨rfl, by decide⟩)]
  rfl
theorem eC_6 {c ad dec : Nat → Nat} (hG : cG c ad dec) {σ : zS} : mC c ad dec σ (ad 48) = some (.inl (.object "GiftRing$Man", 16, .inr (.inr (.inr (.inr (fun i => if i < c 3 then some (ad (8 * i + 1)) else none)))))) := by
  rw [mC_at hG (Or.inl ⟨rfl, by decide⟩)]
  rfl
theorem eC_7 {c ad dec : Nat → Nat} (hG : cG c ad dec) {σ : zS} : mC c ad dec σ (ad 56) = some (.inl (.object "GiftRing$Treasure", 24, .inr (.inr (.inr (.inr (fun i => if i < c 4 then some (ad (8 * i + 2)) else none)))))) := by
  rw [mC_at hG (Or.inl ⟨rfl, by decide⟩)]
  rfl
theorem eC_8 {c ad dec : Nat → Nat} (hG : cG c ad dec) {σ : zS} : mC c ad dec σ (ad 64) = some (.inr (2, [.ref (ad 72), .int (σ 35 0)])) := by
  rw [mC_at hG (Or.inl ⟨rfl, by decide⟩)]
  rfl
theorem eC_9 {c ad dec : Nat → Nat} (hG : cG c ad dec) {σ : zS} : mC c ad dec σ (ad 72) = some (.inl (.object "GiftRing$Debt", 200, .inr (.inr (.inr (.inr (fun i => if i < c 5 then some (ad (8 * i + 5)) else none)))))) := by
  rw [mC_at hG (Or.inl ⟨rfl, by decide⟩)]
  rfl
theorem eC_10 {c ad dec : Nat → Nat} (hG : cG c ad dec) {σ : zS} : mC c ad dec σ (ad 80) = some (.inr (4, [.ref (ad 88), .ref (ad 96), .ref (ad 104), .int (σ 36 0), .ref (ad 112), .ref (ad 120), .int (σ 37 0), .ref (ad 128), .ref (ad 136)])) := by
  rw [mC_at hG (Or.inl ⟨rfl, by decide⟩)]
  rfl
theorem eC_11 {c ad dec : Nat → Nat} (hG : cG c ad dec) {σ : zS} : mC c ad dec σ (ad 88) = some (.inl (.int, 8, .inl (σ 11))) := by
  rw [mC_at hG (Or.inl ⟨rfl, by decide⟩)]
  rfl
theorem eC_12 {c ad dec : Nat → Nat} (hG : cG c ad dec) {σ : zS} : mC c ad dec σ (ad 96) = some (.inl (.int, 8, .inl (σ 12))) := by
  rw [mC_at hG (Or.inl ⟨rfl, by decide⟩)]
  rfl
theorem eC_13 {c ad dec : Nat → Nat} (hG : cG c ad dec) {σ : zS} : mC c ad dec σ (ad 104) = some (.inl (.int, 8, .inl (σ 13))) := by
  rw [mC_at hG (Or.inl ⟨rfl, by decide⟩)]
  rfl
theorem eC_14 {c ad dec : Nat → Nat} (hG : cG c ad dec) {σ : zS} : mC c ad dec σ (ad 112) = some (.inl (.int, 6, .inl (σ 14))) := by
  rw [mC_at hG (Or.inl ⟨rfl, by decide⟩)]
  rfl
theorem eC_15 {c ad dec : Nat → Nat} (hG : cG c ad dec) {σ : zS} : mC c ad dec σ (ad 120) = some (.inl (.int, 6, .inl (σ 15))) := by
  rw [mC_at hG (Or.inl ⟨rfl, by decide⟩)]
  rfl
theorem eC_16 {c ad dec : Nat → Nat} (hG : cG c ad dec) {σ : zS} : mC c ad dec σ (ad 128) = some (.inl (.array .int, 7, .inr (.inr (.inr (.inr (fun i => if i < 7 then some (ad (8 * (19 + i))) else none)))))) := by
  rw [mC_at hG (Or.inl ⟨rfl, by decide⟩)]
  rfl
theorem eC_17 {c ad dec : Nat → Nat} (hG : cG c ad dec) {σ : zS} : mC c ad dec σ (ad 136) = some (.inl (.int, 6, .inl (σ 17))) := by
  rw [mC_at hG (Or.inl ⟨rfl, by decide⟩)]
  rfl
theorem eC_18 {c ad dec : Nat → Nat} (hG : cG c ad dec) {σ : zS} : mC c ad dec σ (ad 144) = some (.inl (.int, 16, .inl (σ 18))) := by
  rw [mC_at hG (Or.inl ⟨rfl, by decide⟩)]
  rfl
theorem eC_man {c ad dec : Nat → Nat} (hG : cG c ad dec) {σ : zS} {i : Nat} (hi : i < c 0) : mC c ad dec σ (ad (8 * i + 1)) = some (.inr (3, cMan σ i)) := by
  rw [mC_at hG (Or.inr (Or.inl ⟨by omega, by omega⟩)), cC_man hi]
theorem eC_tr {c ad dec : Nat → Nat} (hG : cG c ad dec) {σ : zS} {i : Nat} (hi : i < c 1) : mC c ad dec σ (ad (8 * i + 2)) = some (.inr (6, cTr ad σ i)) := by
  rw [mC_at hG (Or.inr (Or.inr (Or.inl ⟨by omega, by omega⟩))), cC_tr hi]
theorem eC_hb {c ad dec : Nat → Nat} (hG : cG c ad dec) {σ : zS} {i : Nat} (hi : i < c 1) : mC c ad dec σ (ad (8 * i + 3)) = some (.inl (.int, 80, .inl (σ (1000 + 2 * i)))) := by
  rw [mC_at hG (Or.inr (Or.inr (Or.inr (Or.inl ⟨by omega, by omega⟩)))), cC_hb hi]
theorem eC_hf {c ad dec : Nat → Nat} (hG : cG c ad dec) {σ : zS} {i : Nat} (hi : i < c 1) : mC c ad dec σ (ad (8 * i + 4)) = some (.inl (.int, 80, .inl (σ (1001 + 2 * i)))) := by
  rw [mC_at hG (Or.inr (Or.inr (Or.inr (Or.inr (Or.inl ⟨by omega, by omega⟩))))), cC_hf hi]
theorem eC_db {c ad dec : Nat → Nat} (hG : cG c ad dec) {σ : zS} {i : Nat} (hi : i < c 2) : mC c ad dec σ (ad (8 * i + 5)) = some (.inr (1, cDb σ i)) := by
  rw [mC_at hG (Or.inr (Or.inr (Or.inr (Or.inr (Or.inr ⟨by omega, by omega⟩))))), cC_db hi]
theorem eC_bt {c ad dec : Nat → Nat} (hG : cG c ad dec) {σ : zS} {i : Nat} (hi : i < 7) : mC c ad dec σ (ad (8 * (19 + i))) = some (.inl (.int, 256, .inl (σ (19 + i)))) := by
  rw [mC_at hG (Or.inl ⟨by omega, by omega⟩), cC_bt hi]
theorem pC_30 {c ad dec : Nat → Nat} (hG : cG c ad dec) {σ σ' : zS} {v : Int32} (he : σ' = zs σ 30 0 v) : zUp (mC c ad dec σ) (ad 0) (.inr (7, ([.ref (ad 8), .ref (ad 24), .ref (ad 48), .ref (ad 56), .ref (ad 64), .ref (ad 80), .ref (ad 144), .int (σ 30 0), .int (σ 31 0), .int (σ 32 0), .int (σ 33 0)] : List Value).set 7 (.int v))) = mC c ad dec σ' := by
  subst he
  exact mC_set hG (t := 0) (Or.inl ⟨rfl, by decide⟩) rfl (cC_off1 (k := 30) (by decide))
theorem pC_31 {c ad dec : Nat → Nat} (hG : cG c ad dec) {σ σ' : zS} {v : Int32} (he : σ' = zs σ 31 0 v) : zUp (mC c ad dec σ) (ad 0) (.inr (7, ([.ref (ad 8), .ref (ad 24), .ref (ad 48), .ref (ad 56), .ref (ad 64), .ref (ad 80), .ref (ad 144), .int (σ 30 0), .int (σ 31 0), .int (σ 32 0), .int (σ 33 0)] : List Value).set 8 (.int v))) = mC c ad dec σ' := by
  subst he
  exact mC_set hG (t := 0) (Or.inl ⟨rfl, by decide⟩) rfl (cC_off1 (k := 31) (by decide))
theorem pC_32 {c ad dec : Nat → Nat} (hG : cG c ad dec) {σ σ' : zS} {v : Int32} (he : σ' = zs σ 32 0 v) : zUp (mC c ad dec σ) (ad 0) (.inr (7, ([.ref (ad 8), .ref (ad 24), .ref (ad 48), .ref (ad 56), .ref (ad 64), .ref (ad 80), .ref (ad 144), .int (σ 30 0), .int (σ 31 0), .int (σ 32 0), .int (σ 33 0)] : List Value).set 9 (.int v))) = mC c ad dec σ' := by
  subst he
  exact mC_set hG (t := 0) (Or.inl ⟨rfl, by decide⟩) rfl (cC_off1 (k := 32) (by decide))
theorem pC_33 {c ad dec : Nat → Nat} (hG : cG c ad dec) {σ σ' : zS} {v : Int32} (he : σ' = zs σ 33 0 v) : zUp (mC c ad dec σ) (ad 0) (.inr (7, ([.ref (ad 8), .ref (ad 24), .ref (ad 48), .ref (ad 56), .ref (ad 64), .ref (ad 80), .ref (ad 144), .int (σ 30 0), .int (σ 31 0), .int (σ 32 0), .int (σ 33 0)] : List Value).set 10 (.int v))) = mC c ad dec σ' := by
  subst he
  exact mC_set hG (t := 0) (Or.inl ⟨rfl, by decide⟩) rfl (cC_off1 (k := 33) (by decide))
theorem pC_34 {c ad dec : Nat → Nat} (hG : cG c ad dec) {σ σ' : zS} {v : Int32} (he : σ' = zs σ 34 0 v) : zUp (mC c ad dec σ) (ad 8) (.inr (5, ([.ref (ad 16), .int (σ 34 0)] : List Value).set 1 (.int v))) = mC c ad dec σ' := by
  subst he
  exact mC_set hG (t := 8) (Or.inl ⟨rfl, by decide⟩) rfl (cC_off1 (k := 34) (by decide))
theorem pC_35 {c ad dec : Nat → Nat} (hG : cG c ad dec) {σ σ' : zS} {v : Int32} (he : σ' = zs σ 35 0 v) : zUp (mC c ad dec σ) (ad 64) (.inr (2, ([.ref (ad 72), .int (σ 35 0)] : List Value).set 1 (.int v))) = mC c ad dec σ' := by
  subst he
  exact mC_set hG (t := 64) (Or.inl ⟨rfl, by decide⟩) rfl (cC_off1 (k := 35) (by decide))
theorem pC_36 {c ad dec : Nat → Nat} (hG : cG c ad dec) {σ σ' : zS} {v : Int32} (he : σ' = zs σ 36 0 v) : zUp (mC c ad dec σ) (ad 80) (.inr (4, ([.ref (ad 88), .ref (ad 96), .ref (ad 104), .int (σ 36 0), .ref (ad 112), .ref (ad 120), .int (σ 37 0), .ref (ad 128), .ref (ad 136)] : List Value).set 3 (.int v))) = mC c ad dec σ' := by
  subst he
  exact mC_set hG (t := 80) (Or.inl ⟨rfl, by decide⟩) rfl (cC_off1 (k := 36) (by decide))
theorem pC_37 {c ad dec : Nat → Nat} (hG : cG c ad dec) {σ σ' : zS} {v : Int32} (he : σ' = zs σ 37 0 v) : zUp (mC c ad dec σ) (ad 80) (.inr (4, ([.ref (ad 88), .ref (ad 96), .ref (ad 104), .int (σ 36 0), .ref (ad 112), .ref (ad 120), .int (σ 37 0), .ref (ad 128), .ref (ad 136)] : List Value).set 6 (.int v))) = mC c ad dec σ' := by
  subst he
  exact mC_set hG (t := 80) (Or.inl ⟨rfl, by decide⟩) rfl (cC_off1 (k := 37) (by decide))
theorem sC_2 {c ad dec : Nat → Nat} (hG : cG c ad dec) {σ σ' : zS} {i : Nat} {v : Int32} (he : σ' = zs σ 2 i v) : zUp (mC c ad dec σ) (ad 16) (.inl (.int, 40, .inl (upd (σ 2) i v))) = mC c ad dec σ' := by
  subst he
  exact mC_set hG (t := 16) (Or.inl ⟨rfl, by decide⟩) (by show some _ = some _; rfl) (cC_off1 (k := 2) (by decide))
theorem sC_4 {c ad dec : Nat → Nat} (hG : cG c ad dec) {σ σ' : zS} {i : Nat} {v : Int32} (he : σ' = zs σ 4 i v) : zUp (mC c ad dec σ) (ad 32) (.inl (.int, 4, .inl (upd (σ 4) i v))) = mC c ad dec σ' := by
  subst he
  exact mC_set hG (t := 32) (Or.inl ⟨rfl, by decide⟩) (by show some _ = some _; rfl) (cC_off1 (k := 4) (by decide))
theorem sC_5 {c ad dec : Nat → Nat} (hG : cG c ad dec) {σ σ' : zS} {i : Nat} {v : Int32} (he : σ' = zs σ 5 i v) : zUp (mC c ad dec σ) (ad 40) (.inl (.int, 4, .inl (upd (σ 5) i v))) = mC c ad dec σ' := by
  subst he
  exact mC_set hG (t := 40) (Or.inl ⟨rfl, by decide⟩) (by show some _ = some _; rfl) (cC_off1 (k := 5) (by decide))
theorem sC_11 {c ad dec : Nat → Nat} (hG : cG c ad dec) {σ σ' : zS} {i : Nat} {v : Int32} (he : σ' = zs σ 11 i v) : zUp (mC c ad dec σ) (ad 88) (.inl (.int, 8, .inl (upd (σ 11) i v))) = mC c ad dec σ' := by
  subst he
  exact mC_set hG (t := 88) (Or.inl ⟨rfl, by decide⟩) (by show some _ = some _; rfl) (cC_off1 (k := 11) (by decide))
theorem sC_12 {c ad dec : Nat → Nat} (hG : cG c ad dec) {σ σ' : zS} {i : Nat} {v : Int32} (he : σ' = zs σ 12 i v) : zUp (mC c ad dec σ) (ad 96) (.inl (.int, 8, .inl (upd (σ 12) i v))) = mC c ad dec σ' := by
  subst he
  exact mC_set hG (t := 96) (Or.inl ⟨rfl, by decide⟩) (by show some _ = some _; rfl) (cC_off1 (k := 12) (by decide))
theorem sC_13 {c ad dec : Nat → Nat} (hG : cG c ad dec) {σ σ' : zS} {i : Nat} {v : Int32} (he : σ' = zs σ 13 i v) : zUp (mC c ad dec σ) (ad 104) (.inl (.int, 8, .inl (upd (σ 13) i v))) = mC c ad dec σ' := by
  subst he
  exact mC_set hG (t := 104) (Or.inl ⟨rfl, by decide⟩) (by show some _ = some _; rfl) (cC_off1 (k := 13) (by decide))
theorem sC_14 {c ad dec : Nat → Nat} (hG : cG c ad dec) {σ σ' : zS} {i : Nat} {v : Int32} (he : σ' = zs σ 14 i v) : zUp (mC c ad dec σ) (ad 112) (.inl (.int, 6, .inl (upd (σ 14) i v))) = mC c ad dec σ' := by
  subst he
  exact mC_set hG (t := 112) (Or.inl ⟨rfl, by decide⟩) (by show some _ = some _; rfl) (cC_off1 (k := 14) (by decide))
theorem sC_15 {c ad dec : Nat → Nat} (hG : cG c ad dec) {σ σ' : zS} {i : Nat} {v : Int32} (he : σ' = zs σ 15 i v) : zUp (mC c ad dec σ) (ad 120) (.inl (.int, 6, .inl (upd (σ 15) i v))) = mC c ad dec σ' := by
  subst he
  exact mC_set hG (t := 120) (Or.inl ⟨rfl, by decide⟩) (by show some _ = some _; rfl) (cC_off1 (k := 15) (by decide))
theorem sC_17 {c ad dec : Nat → Nat} (hG : cG c ad dec) {σ σ' : zS} {i : Nat} {v : Int32} (he : σ' = zs σ 17 i v) : zUp (mC c ad dec σ) (ad 136) (.inl (.int, 6, .inl (upd (σ 17) i v))) = mC c ad dec σ' := by
  subst he
  exact mC_set hG (t := 136) (Or.inl ⟨rfl, by decide⟩) (by show some _ = some _; rfl) (cC_off1 (k := 17) (by decide))
theorem sC_18 {c ad dec : Nat → Nat} (hG : cG c ad dec) {σ σ' : zS} {i : Nat} {v : Int32} (he : σ' = zs σ 18 i v) : zUp (mC c ad dec σ) (ad 144) (.inl (.int, 16, .inl (upd (σ 18) i v))) = mC c ad dec σ' := by
  subst he
  exact mC_set hG (t := 144) (Or.inl ⟨rfl, by decide⟩) (by show some _ = some _; rfl) (cC_off1 (k := 18) (by decide))
theorem sC_bt {c ad dec : Nat → Nat} (hG : cG c ad dec) {σ σ' : zS} {d i : Nat} {v : Int32} (hd : d < 7) (he : σ' = zs σ (19 + d) i v) : zUp (mC c ad dec σ) (ad (8 * (19 + d))) (.inl (.int, 256, .inl (upd (σ (19 + d)) i v))) = mC c ad dec σ' := by
  subst he
  have ho : cOw (19 + d) = 19 + d := by unfold cOw; repeat (rw [if_neg (by omega)])
  refine mC_set hG (t := 8 * (19 + d)) (Or.inl ⟨by omega, by omega⟩) (by rw [cC_bt hd, zs_at]) (fun t' ht => cC_off1 (by omega) t' (by rw [ho]; exact ht))
theorem sC_hb {c ad dec : Nat → Nat} (hG : cG c ad dec) {σ σ' : zS} {d i : Nat} {v : Int32} (hd : d < c 1) (he : σ' = zs σ (1000 + 2 * d) i v) : zUp (mC c ad dec σ) (ad (8 * d + 3)) (.inl (.int, 80, .inl (upd (σ (1000 + 2 * d)) i v))) = mC c ad dec σ' := by
  subst he
  exact mC_set hG (t := 8 * d + 3) (Or.inr (Or.inr (Or.inr (Or.inl ⟨by omega, by omega⟩)))) (by rw [cC_hb hd, zs_at]) (fun t' ht => cC_eq (fun e => cS_eq (fun k' hk' h40 => zs_ne _ _ _ (by omega))) (fun _ k' a b => zs_off (by omega)) (fun _ k' a b => zs_off (by omega)) (fun _ => zs_ne _ _ _ (by omega)) (fun _ => zs_ne _ _ _ (by omega)) (fun _ k' a b => zs_off (by omega)))
theorem sC_hf {c ad dec : Nat → Nat} (hG : cG c ad dec) {σ σ' : zS} {d i : Nat} {v : Int32} (hd : d < c 1) (he : σ' = zs σ (1001 + 2 * d) i v) : zUp (mC c ad dec σ) (ad (8 * d + 4)) (.inl (.int, 80, .inl (upd (σ (1001 + 2 * d)) i v))) = mC c ad dec σ' := by
  subst he
  exact mC_set hG (t := 8 * d + 4) (Or.inr (Or.inr (Or.inr (Or.inr (Or.inl ⟨by omega, by omega⟩))))) (by rw [cC_hf hd, zs_at]) (fun t' ht => cC_eq (fun e => cS_eq (fun k' hk' h40 => zs_ne _ _ _ (by omega))) (fun _ k' a b => zs_off (by omega)) (fun _ k' a b => zs_off (by omega)) (fun _ => zs_ne _ _ _ (by omega)) (fun _ => zs_ne _ _ _ (by omega)) (fun _ k' a b => zs_off (by omega)))
theorem pman_40 {c ad dec : Nat → Nat} (hG : cG c ad dec) {σ σ' : zS} {i : Nat} {v : Int32} (hi : i < c 0) (he : σ' = zs σ 40 i v) : zUp (mC c ad dec σ) (ad (8 * i + 1)) (.inr (3, (cMan σ i).set 0 (.int v))) = mC c ad dec σ' := by
  subst he
  refine mC_set hG (t := 8 * i + 1) (Or.inr (Or.inl ⟨by omega, by omega⟩)) ?_ (cC_off2 (by omega))
  rw [cC_man hi]
  have e : (cMan σ i).set 0 (.int v) = cMan (zs σ 40 i v) i := by
    simp [cMan, zs, upd]
  rw [e]
theorem pman_41 {c ad dec : Nat → Nat} (hG : cG c ad dec) {σ σ' : zS} {i : Nat} {v : Int32} (hi : i < c 0) (he : σ' = zs σ 41 i v) : zUp (mC c ad dec σ) (ad (8 * i + 1)) (.inr (3, (cMan σ i).set 1 (.int v))) = mC c ad dec σ' := by
  subst he
  refine mC_set hG (t := 8 * i + 1) (Or.inr (Or.inl ⟨by omega, by omega⟩)) ?_ (cC_off2 (by omega))
  rw [cC_man hi]
  have e : (cMan σ i).set 1 (.int v) = cMan (zs σ 41 i v) i := by
    simp [cMan, zs, upd]
  rw [e]
theorem pman_42 {c ad dec : Nat → Nat} (hG : cG c ad dec) {σ σ' : zS} {i : Nat} {v : Int32} (hi : i < c 0) (he : σ' = zs σ 42 i v) : zUp (mC c ad dec σ) (ad (8 * i + 1)) (.inr (3, (cMan σ i).set 2 (.int v))) = mC c ad dec σ' := by
  subst he
  refine mC_set hG (t := 8 * i + 1) (Or.inr (Or.inl ⟨by omega, by omega⟩)) ?_ (cC_off2 (by omega))
  rw [cC_man hi]
  have e : (cMan σ i).set 2 (.int v) = cMan (zs σ 42 i v) i := by
    simp [cMan, zs, upd]
  rw [e]
theorem pman_43 {c ad dec : Nat → Nat} (hG : cG c ad dec) {σ σ' : zS} {i : Nat} {v : Int32} (hi : i < c 0) (he : σ' = zs σ 43 i v) : zUp (mC c ad dec σ) (ad (8 * i + 1)) (.inr (3, (cMan σ i).set 3 (.int v))) = mC c ad dec σ' := by
  subst he
  refine mC_set hG (t := 8 * i + 1) (Or.inr (Or.inl ⟨by omega, by omega⟩)) ?_ (cC_off2 (by omega))
  rw [cC_man hi]
  have e : (cMan σ i).set 3 (.int v) = cMan (zs σ 43 i v) i := by
    simp [cMan, zs, upd]
  rw [e]
theorem ptr_50 {c ad dec : Nat → Nat} (hG : cG c ad dec) {σ σ' : zS} {i : Nat} {v : Int32} (hi : i < c 1) (he : σ' = zs σ 50 i v) : zUp (mC c ad dec σ) (ad (8 * i + 2)) (.inr (6, (cTr ad σ i).set 0 (.int v))) = mC c ad dec σ' := by
  subst he
  refine mC_set hG (t := 8 * i + 2) (Or.inr (Or.inr (Or.inl ⟨by omega, by omega⟩))) ?_ (cC_off2 (by omega))
  rw [cC_tr hi]
  have e : (cTr ad σ i).set 0 (.int v) = cTr ad (zs σ 50 i v) i := by
    simp [cTr, zs, upd]
  rw [e]
theorem ptr_51 {c ad dec : Nat → Nat} (hG : cG c ad dec) {σ σ' : zS} {i : Nat} {v : Int32} (hi : i < c 1) (he : σ' = zs σ 51 i v) : zUp (mC c ad dec σ) (ad (8 * i + 2)) (.inr (6, (cTr ad σ i).set 1 (.int v))) = mC c ad dec σ' := by
  subst he
  refine mC_set hG (t := 8 * i + 2) (Or.inr (Or.inr (Or.inl ⟨by omega, by omega⟩))) ?_ (cC_off2 (by omega))
  rw [cC_tr hi]
  have e : (cTr ad σ i).set 1 (.int v) = cTr ad (zs σ 51 i v) i := by
    simp [cTr, zs, upd]
  rw [e]
theorem ptr_52 {c ad dec : Nat → Nat} (hG : cG c ad dec) {σ σ' : zS} {i : Nat} {v : Int32} (hi : i < c 1) (he : σ' = zs σ 52 i v) : zUp (mC c ad dec σ) (ad (8 * i + 2)) (.inr (6, (cTr ad σ i).set 2 (.int v))) = mC c ad dec σ' := by
  subst he
  refine mC_set hG (t := 8 * i + 2) (Or.inr (Or.inr (Or.inl ⟨by omega, by omega⟩))) ?_ (cC_off2 (by omega))
  rw [cC_tr hi]
  have e : (cTr ad σ i).set 2 (.int v) = cTr ad (zs σ 52 i v) i := by
    simp [cTr, zs, upd]
  rw [e]
theorem ptr_53 {c ad dec : Nat → Nat} (hG : cG c ad dec) {σ σ' : zS} {i : Nat} {v : Int32} (hi : i < c 1) (he : σ' = zs σ 53 i v) : zUp (mC c ad dec σ) (ad (8 * i + 2)) (.inr (6, (cTr ad σ i).set 3 (.int v))) = mC c ad dec σ' := by
  subst he
  refine mC_set hG (t := 8 * i + 2) (Or.inr (Or.inr (Or.inl ⟨by omega, by omega⟩))) ?_ (cC_off2 (by omega))
  rw [cC_tr hi]
  have e : (cTr ad σ i).set 3 (.int v) = cTr ad (zs σ 53 i v) i := by
    simp [cTr, zs, upd]
  rw [e]
theorem ptr_54 {c ad dec : Nat → Nat} (hG : cG c ad dec) {σ σ' : zS} {i : Nat} {v : Int32} (hi : i < c 1) (he : σ' = zs σ 54 i v) : zUp (mC c ad dec σ) (ad (8 * i + 2)) (.inr (6, (cTr ad σ i).set 4 (.int v))) = mC c ad dec σ' := by
  subst he
  refine mC_set hG (t := 8 * i + 2) (Or.inr (Or.inr (Or.inl ⟨by omega, by omega⟩))) ?_ (cC_off2 (by omega))
  rw [cC_tr hi]
  have e : (cTr ad σ i).set 4 (.int v) = cTr ad (zs σ 54 i v) i := by
    simp [cTr, zs, upd]
  rw [e]
theorem ptr_55 {c ad dec : Nat → Nat} (hG : cG c ad dec) {σ σ' : zS} {i : Nat} {v : Int32} (hi : i < c 1) (he : σ' = zs σ 55 i v) : zUp (mC c ad dec σ) (ad (8 * i + 2)) (.inr (6, (cTr ad σ i).set 5 (.int v))) = mC c ad dec σ' := by
  subst he
  refine mC_set hG (t := 8 * i + 2) (Or.inr (Or.inr (Or.inl ⟨by omega, by omega⟩))) ?_ (cC_off2 (by omega))
  rw [cC_tr hi]
  have e : (cTr ad σ i).set 5 (.int v) = cTr ad (zs σ 55 i v) i := by
    simp [cTr, zs, upd]
  rw [e]
theorem ptr_56 {c ad dec : Nat → Nat} (hG : cG c ad dec) {σ σ' : zS} {i : Nat} {v : Int32} (hi : i < c 1) (he : σ' = zs σ 56 i v) : zUp (mC c ad dec σ) (ad (8 * i + 2)) (.inr (6, (cTr ad σ i).set 6 (.int v))) = mC c ad dec σ' := by
  subst he
  refine mC_set hG (t := 8 * i + 2) (Or.inr (Or.inr (Or.inl ⟨by omega, by omega⟩))) ?_ (cC_off2 (by omega))
  rw [cC_tr hi]
  have e : (cTr ad σ i).set 6 (.int v) = cTr ad (zs σ 56 i v) i := by
    simp [cTr, zs, upd]
  rw [e]
theorem ptr_57 {c ad dec : Nat → Nat} (hG : cG c ad dec) {σ σ' : zS} {i : Nat} {v : Int32} (hi : i < c 1) (he : σ' = zs σ 57 i v) : zUp (mC c ad dec σ) (ad (8 * i + 2)) (.inr (6, (cTr ad σ i).set 9 (.int v))) = mC c ad dec σ' := by
  subst he
  refine mC_set hG (t := 8 * i + 2) (Or.inr (Or.inr (Or.inl ⟨by omega, by omega⟩))) ?_ (cC_off2 (by omega))
  rw [cC_tr hi]
  have e : (cTr ad σ i).set 9 (.int v) = cTr ad (zs σ 57 i v) i := by
    simp [cTr, zs, upd]
  rw [e]
theorem pdb_60 {c ad dec : Nat → Nat} (hG : cG c ad dec) {σ σ' : zS} {i : Nat} {v : Int32} (hi : i < c 2) (he : σ' = zs σ 60 i v) : zUp (mC c ad dec σ) (ad (8 * i + 5)) (.inr (1, (cDb σ i).set 0 (.int v))) = mC c ad dec σ' := by
  subst he
  refine mC_set hG (t := 8 * i + 5) (Or.inr (Or.inr (Or.inr (Or.inr (Or.inr ⟨by omega, by omega⟩))))) ?_ (cC_off2 (by omega))
  rw [cC_db hi]
  have e : (cDb σ i).set 0 (.int v) = cDb (zs σ 60 i v) i := by
    simp [cDb, zs, upd]
  rw [e]
theorem pdb_61 {c ad dec : Nat → Nat} (hG : cG c ad dec) {σ σ' : zS} {i : Nat} {v : Int32} (hi : i < c 2) (he : σ' = zs σ 61 i v) : zUp (mC c ad dec σ) (ad (8 * i + 5)) (.inr (1, (cDb σ i).set 1 (.int v))) = mC c ad dec σ' := by
  subst he
  refine mC_set hG (t := 8 * i + 5) (Or.inr (Or.inr (Or.inr (Or.inr (Or.inr ⟨by omega, by omega⟩))))) ?_ (cC_off2 (by omega))
  rw [cC_db hi]
  have e : (cDb σ i).set 1 (.int v) = cDb (zs σ 61 i v) i := by
    simp [cDb, zs, upd]
  rw [e]
theorem pdb_62 {c ad dec : Nat → Nat} (hG : cG c ad dec) {σ σ' : zS} {i : Nat} {v : Int32} (hi : i < c 2) (he : σ' = zs σ 62 i v) : zUp (mC c ad dec σ) (ad (8 * i + 5)) (.inr (1, (cDb σ i).set 2 (.int v))) = mC c ad dec σ' := by
  subst he
  refine mC_set hG (t := 8 * i + 5) (Or.inr (Or.inr (Or.inr (Or.inr (Or.inr ⟨by omega, by omega⟩))))) ?_ (cC_off2 (by omega))
  rw [cC_db hi]
  have e : (cDb σ i).set 2 (.int v) = cDb (zs σ 62 i v) i := by
    simp [cDb, zs, upd]
  rw [e]
theorem pdb_63 {c ad dec : Nat → Nat} (hG : cG c ad dec) {σ σ' : zS} {i : Nat} {v : Int32} (hi : i < c 2) (he : σ' = zs σ 63 i v) : zUp (mC c ad dec σ) (ad (8 * i + 5)) (.inr (1, (cDb σ i).set 3 (.int v))) = mC c ad dec σ' := by
  subst he
  refine mC_set hG (t := 8 * i + 5) (Or.inr (Or.inr (Or.inr (Or.inr (Or.inr ⟨by omega, by omega⟩))))) ?_ (cC_off2 (by omega))
  rw [cC_db hi]
  have e : (cDb σ i).set 3 (.int v) = cDb (zs σ 63 i v) i := by
    simp [cDb, zs, upd]
  rw [e]
theorem pdb_64 {c ad dec : Nat → Nat} (hG : cG c ad dec) {σ σ' : zS} {i : Nat} {v : Int32} (hi : i < c 2) (he : σ' = zs σ 64 i v) : zUp (mC c ad dec σ) (ad (8 * i + 5)) (.inr (1, (cDb σ i).set 4 (.int v))) = mC c ad dec σ' := by
  subst he
  refine mC_set hG (t := 8 * i + 5) (Or.inr (Or.inr (Or.inr (Or.inr (Or.inr ⟨by omega, by omega⟩))))) ?_ (cC_off2 (by omega))
  rw [cC_db hi]
  have e : (cDb σ i).set 4 (.int v) = cDb (zs σ 64 i v) i := by
    simp [cDb, zs, upd]
  rw [e]
theorem pdb_65 {c ad dec : Nat → Nat} (hG : cG c ad dec) {σ σ' : zS} {i : Nat} {v : Int32} (hi : i < c 2) (he : σ' = zs σ 65 i v) : zUp (mC c ad dec σ) (ad (8 * i + 5)) (.inr (1, (cDb σ i).set 5 (.int v))) = mC c ad dec σ' := by
  subst he
  refine mC_set hG (t := 8 * i + 5) (Or.inr (Or.inr (Or.inr (Or.inr (Or.inr ⟨by omega, by omega⟩))))) ?_ (cC_off2 (by omega))
  rw [cC_db hi]
  have e : (cDb σ i).set 5 (.int v) = cDb (zs σ 65 i v) i := by
    simp [cDb, zs, upd]
  rw [e]
theorem pdb_66 {c ad dec : Nat → Nat} (hG : cG c ad dec) {σ σ' : zS} {i : Nat} {v : Int32} (hi : i < c 2) (he : σ' = zs σ 66 i v) : zUp (mC c ad dec σ) (ad (8 * i + 5)) (.inr (1, (cDb σ i).set 6 (.int v))) = mC c ad dec σ' := by
  subst he
  refine mC_set hG (t := 8 * i + 5) (Or.inr (Or.inr (Or.inr (Or.inr (Or.inr ⟨by omega, by omega⟩))))) ?_ (cC_off2 (by omega))
  rw [cC_db hi]
  have e : (cDb σ i).set 6 (.int v) = cDb (zs σ 66 i v) i := by
    simp [cDb, zs, upd]
  rw [e]
theorem pdb_67 {c ad dec : Nat → Nat} (hG : cG c ad dec) {σ σ' : zS} {i : Nat} {v : Int32} (hi : i < c 2) (he : σ' = zs σ 67 i v) : zUp (mC c ad dec σ) (ad (8 * i + 5)) (.inr (1, (cDb σ i).set 7 (.int v))) = mC c ad dec σ' := by
  subst he
  refine mC_set hG (t := 8 * i + 5) (Or.inr (Or.inr (Or.inr (Or.inr (Or.inr ⟨by omega, by omega⟩))))) ?_ (cC_off2 (by omega))
  rw [cC_db hi]
  have e : (cDb σ i).set 7 (.int v) = cDb (zs σ 67 i v) i := by
    simp [cDb, zs, upd]
  rw [e]
