/-! WHAT BOTH OBJECTS STAND FOR -/
/-- a globe: how many children, the hour, which school, the rows (0 need, 1 kind, 2 v, 3 finger, 4 stood, 5 row) -/
abbrev sG : Type := Nat × Int32 × Option Nat × (Nat → Nat → Int32)
/-- the clauses of a school: 0 more, 1 less, 2 grow; the number; what must hold, from the left on -/
abbrev sS : Type := List (Nat × Int32 × List Nat)
def sp_r (x y : Int32) : Int32 := x - x / y * y
def sp_min (x y : Int32) : Int32 := if y < x then y else x
def sp_max (x y : Int32) : Int32 := if x < y then y else x
def sp_z (n k : Nat) : Nat := match k with
  | 0 => 12
  | 5 => 4 * n
  | _ => n
/-- the sum of the first k -/
def sp_fold (f : Nat → Int32) : Nat → Int32
  | 0 => 0
  | k + 1 => sp_fold f k + f k
/-- how many of the first k -/
def sp_cnt (f : Nat → Prop) (h : ∀ i, Decidable (f i)) : Nat → Nat
  | 0 => 0
  | k + 1 => if @decide (f k) (h k) then sp_cnt f h k + 1 else sp_cnt f h k
/-- a test of a letter -/
def sp_tst (F : Nat → Int32) (op : Nat) : Bool :=
  if (op - 3) / 100 % 3 = 0 then decide (F ((op - 3) / 300) < nI ((op - 3) % 100))
  else if (op - 3) / 100 % 3 = 1 then decide (F ((op - 3) / 300) = nI ((op - 3) % 100))
  else decide (nI ((op - 3) % 100) < F ((op - 3) / 300))
def sp_ev1 (F : Nat → Int32) (op : Nat) (s : List Bool) : List Bool :=
  if 3 ≤ op then sp_tst F op :: s
  else match op, s with
    | 0, a :: s => (!a) :: s
    | 1, a :: b :: s => (b && a) :: s
    | 2, a :: b :: s => (b || a) :: s
    | _, s => s
def sp_ev (F : Nat → Int32) : List Nat → List Bool → List Bool
  | [], s => s
  | o :: r, s => sp_ev F r (sp_ev1 F o s)
/-- how many answers lie there: steps that fit -/
def sp_dep : List Nat → Nat → Option Nat
  | [], d => some d
  | o :: r, d => if 3 ≤ o then (if o < 1803 ∧ d < 50 then sp_dep r (d + 1) else none) else if o = 0 then (if 1 ≤ d then sp_dep r d else none) else if 2 ≤ d then sp_dep r (d - 1) else none
def sp_so (F : Nat → Int32) (ops : List Nat) : Bool := (sp_ev F ops []).headD false
def sp_sm (F : Nat → Int32) : sS → Int32 → Int32
  | [], a => a
  | (w, n, ops) :: r, a => sp_sm F r (if w < 2 ∧ sp_so F ops = true then a + (if w = 0 then n else - n) else a)
def sp_gr : sS → Int32 → Int32
  | [], a => a
  | (w, n, _) :: r, a => sp_gr r (if w = 2 then n else a)
def sp_sum (σ : List sS) (o : Option Nat) (F : Nat → Int32) : Int32 := match o with
  | none => 4
  | some j => sp_sm F (σ.getD j []) 4
def sp_grow (σ : List sS) (o : Option Nat) : Int32 := match o with
  | none => 2
  | some j => sp_gr (σ.getD j []) 2
def sp_f (g : sG) (c p : Nat) (needs later : Int32) : Nat → Int32
  | 0 => nI c
  | 1 => g.2.2.2 1 c
  | 2 => g.2.2.2 2 c
  | 3 => nI p
  | 4 => needs / 10
  | _ => sp_r (g.2.1 + later) 10
/-- what is made of a sum -/
def sp_cr (g : sG) (c p : Nat) (later an sum dr : Int32) : Int32 :=
  if g.2.2.2 1 c = 1 then sum + g.2.2.2 2 c
  else if g.2.2.2 1 c = 2 then sum / 2
  else if g.2.2.2 1 c = 3 then dr
  else if g.2.2.2 1 c = 4 then (sum + g.2.2.2 2 c) * (if an = 0 then 1 else 2)
  else if g.2.2.2 1 c = 5 then sum / 2 - sp_min 9 ((g.2.2.2 4 c + later) / 5)
  else if g.2.2.2 1 c = 6 then dr + g.2.2.2 5 (4 * c + p % 4)
  else sum
def sp_care (σ : List sS) (g : sG) (c p : Nat) (needs later an : Int32) : Int32 :=
  sp_cr g c p later an (sp_sum σ g.2.2.1 (sp_f g c p needs later)) (if sp_r (g.2.1 + later) 4 = 3 then 0 else sp_sum σ g.2.2.1 (sp_f g c p needs later))
/-- whether another one's finger is there -/
abbrev sp_met (g : sG) (c : Nat) (p : Int32) : Prop := ∃ q, q < g.1 ∧ q ≠ c ∧ g.2.2.2 3 q = p
def sp_on (g : sG) (p : Int32) : Nat → Nat
  | 0 => 0
  | k + 1 => if g.2.2.2 3 k = p then sp_on g p k + 1 else sp_on g p k
/-- what the first k children see to -/
def sp_sees (σ : List sS) (g : sG) (p : Nat) (needs later an : Int32) : Nat → Int32
  | 0 => 0
  | k + 1 => if g.2.2.2 3 k = nI p then sp_sees σ g p needs later an k + sp_max 0 (sp_care σ g k p needs later an) else sp_sees σ g p needs later an k
def sp_clp (x : Int32) : Int32 := sp_max 0 (sp_min 99 x)
def sp_next (σ : List sS) (g : sG) (p : Nat) (needs later : Int32) : Int32 :=
  sp_clp (needs + sp_grow σ g.2.2.1 - sp_sees σ g p needs later (bI (1 < sp_on g (nI p) g.1)) g.1)
def sp_beh (σ : List sS) (g : sG) (p : Nat) : Nat → Int32
  | 0 => g.2.2.2 0 p
  | k + 1 => sp_next σ g p (sp_beh σ g p k) (nI k)
def sp_all (σ : List sS) (g : sG) (h : Nat) : Int32 := sp_fold (fun p => sp_beh σ g p h) 12
def sp_wel (σ : List sS) (g : sG) (h : Nat) : Nat → Int32
  | 0 => 0
  | k + 1 => if sp_beh σ g k h = 0 then sp_wel σ g h k + 1 else sp_wel σ g h k
def sp_huw (σ : List sS) (g : sG) (p : Nat) : Nat → Nat → Int32
  | 0, _ => -5
  | m + 1, k => if sp_beh σ g p k = 0 then nI k else sp_huw σ g p m (k + 1)
/-- how many fingers are on places -/
def sp_fop (g : sG) : Nat → Int32
  | 0 => 0
  | k + 1 => if g.2.2.2 3 k < 0 then sp_fop g k else sp_fop g k + 1
/-- an hour -/
def sp_hour (σ : List sS) (g : sG) : sG := (g.1, g.2.1 + 1, g.2.2.1, fun k => match k with
  | 0 => fun p => sp_next σ g p (g.2.2.2 0 p) 0
  | 4 => fun c => if 0 ≤ g.2.2.2 3 c then g.2.2.2 4 c + 1 else g.2.2.2 4 c
  | k => g.2.2.2 k)
def sp_hours (σ : List sS) (g : sG) : Nat → sG
  | 0 => g
  | k + 1 => sp_hour σ (sp_hours σ g k)
/-- one row in another's place -/
def sG_u (g : sG) (k : Nat) (f : Nat → Int32) : sG := (g.1, g.2.1, g.2.2.1, fun j => if j = k then f else g.2.2.2 j)
/-- the class's cells hold the globe; the reference's -/
def sG_c (b : Nat) (g : sG) (μ : mm_M) : Prop := μ.1 b 1 = nI g.1 ∧ μ.1 b 0 = g.2.1 ∧ μ.2.2 b 2 = g.2.2.1.map (fun j => 74 + 4 * j) ∧ ∀ k i, k < 6 → i < sp_z g.1 k → μ.1 (b + 1 + k) i = g.2.2.2 k i
def sG_m (g : sG) (μ : mm_M) : Prop := μ.1 110 1 = nI g.1 ∧ μ.1 110 7 = g.2.1 ∧ μ.1 110 15 = (match g.2.2.1 with | none => -1 | some j => nI j) ∧ ∀ k i, k < 6 → i < sp_z g.1 k → μ.1 (111 + k) i = g.2.2.2 k i
section
variable {b : Nat} {g : sG} {μ : mm_M} {c p k : Nat}
theorem sG_c.n (h : sG_c b g μ) : μ.1 b 1 = nI g.1 := h.1
theorem sG_c.hour (h : sG_c b g μ) : μ.1 b 0 = g.2.1 := h.2.1
theorem sG_c.sch (h : sG_c b g μ) : μ.2.2 b 2 = g.2.2.1.map (fun j => 74 + 4 * j) := h.2.2.1
theorem sG_c.need (h : sG_c b g μ) (hp : p < 12) : μ.1 (b + 1) p = g.2.2.2 0 p := h.2.2.2 0 p (by decide) hp
theorem sG_c.kind (h : sG_c b g μ) (hc : c < g.1) : μ.1 (b + 2) c = g.2.2.2 1 c := h.2.2.2 1 c (by decide) hc
theorem sG_c.v (h : sG_c b g μ) (hc : c < g.1) : μ.1 (b + 3) c = g.2.2.2 2 c := h.2.2.2 2 c (by decide) hc
theorem sG_c.fin (h : sG_c b g μ) (hc : c < g.1) : μ.1 (b + 4) c = g.2.2.2 3 c := h.2.2.2 3 c (by decide) hc
theorem sG_c.stood (h : sG_c b g μ) (hc : c < g.1) : μ.1 (b + 5) c = g.2.2.2 4 c := h.2.2.2 4 c (by decide) hc
theorem sG_c.row (h : sG_c b g μ) (hc : c < 4 * g.1) : μ.1 (b + 6) c = g.2.2.2 5 c := h.2.2.2 5 c (by decide) hc
theorem sG_m.n (h : sG_m g μ) : μ.1 110 1 = nI g.1 := h.1
theorem sG_m.hour (h : sG_m g μ) : μ.1 110 7 = g.2.1 := h.2.1
theorem sG_m.need (h : sG_m g μ) (hp : p < 12) : μ.1 111 p = g.2.2.2 0 p := h.2.2.2 0 p (by decide) hp
theorem sG_m.kind (h : sG_m g μ) (hc : c < g.1) : μ.1 112 c = g.2.2.2 1 c := h.2.2.2 1 c (by decide) hc
theorem sG_m.v (h : sG_m g μ) (hc : c < g.1) : μ.1 113 c = g.2.2.2 2 c := h.2.2.2 2 c (by decide) hc
theorem sG_m.fin (h : sG_m g μ) (hc : c < g.1) : μ.1 114 c = g.2.2.2 3 c := h.2.2.2 3 c (by decide) hc
theorem sG_m.stood (h : sG_m g μ) (hc : c < g.1) : μ.1 115 c = g.2.2.2 4 c := h.2.2.2 4 c (by decide) hc
theorem sG_m.row (h : sG_m g μ) (hc : c < 4 * g.1) : μ.1 116 c = g.2.2.2 5 c := h.2.2.2 5 c (by decide) hc
end
/-- a run of steps lies there -/
def sp_seg (f : Nat → Int32) (cv : Nat → Int32) (i : Nat) : List Nat → Prop
  | [] => True
  | o :: r => f i = cv o ∧ sp_seg f cv (i + 1) r
/-- the class's steps -/
def sp_cc (o : Nat) : Int32 := if o = 0 then -1 else if o = 1 then -2 else if o = 2 then -3 else nI ((o - 3) / 300 * 512 + (o - 3) / 100 % 3 * 128 + (o - 3) % 100)
/-- a school in the class's cells: from clause k and place i on -/
def sp_cl (q : Nat) (μ : mm_M) : sS → Nat → Nat → Prop
  | [], k, _ => μ.1 q 1 = nI k ∧ k ≤ 10
  | (w, n, ops) :: r, k, i => if w = 2 then sp_cl q μ r k i else (w < 2 ∧ k < 10 ∧ μ.1 (q + 1) k = (if w = 0 then n else - n) ∧ i + ops.length ≤ 100 ∧ μ.1 (q + 2) k = nI (i + ops.length) ∧ sp_seg (μ.1 (q + 3)) sp_cc i ops ∧ sp_dep ops 0 = some 1 ∧ sp_cl q μ r (k + 1) (i + ops.length))
def sS_c (q : Nat) (s : sS) (μ : mm_M) : Prop := μ.1 q 0 = sp_gr s 2 ∧ sp_cl q μ s 0 0
def sC_c (σ : List sS) (μ : mm_M) : Prop := μ.1 14 5 = nI σ.length ∧ σ.length ≤ 6 ∧ ∀ j, j < σ.length → sS_c (74 + 4 * j) (σ.getD j []) μ
