section PRJ
/-! allocation on counters and references alone (gen98.py) -/
abbrev ez_E : Type := (Nat × Nat × Nat) × (Nat → Nat → Option Nat)
def ez_n (e : ez_E) : Nat := e.1.1
def ez_N (e : ez_E) (x : Nat) : ez_E := ((e.1.1 + 1, e.1.2.1 + 1, e.1.2.2 + x), e.2)
def ez_R (e : ez_E) (o k : Nat) (v : Option Nat) : ez_E := (e.1, mm_up e.2 o k v)
variable {J : Nat → Nat → Int64} {D : Nat → Nat → Nat}
def ez_t (J : Nat → Nat → Int64) (D : Nat → Nat → Nat) (I : Nat → Nat → Int32) (e : ez_E) : mm_H := (e.1, I, e.2, J, D)
section
variable {τ : Type} {fin : ez_E → Option mm_H} {tp1 : ez_E → mm_H}
theorem lw_ei {c c' : Prop} [Decidable c] [Decidable c'] {a : Option mm_H} {b : Option ez_E} (hc : c ↔ c') (ha : a = b.bind fin) : (if c then a else none) = (if c' then b else none).bind fin := by
  by_cases h : c
  · rw [if_pos h, if_pos (hc.mp h)]
    exact ha
  · rw [if_neg h, if_neg (fun z => h (hc.mpr z))]
    rfl
theorem lw_e2 {c c' : Prop} [Decidable c] [Decidable c'] {a a2 : Option mm_H} {b b2 : Option ez_E} (hc : c ↔ c') (ha : a = b.bind fin) (ha2 : a2 = b2.bind fin) : (if c then a else a2) = (if c' then b else b2).bind fin := by
  by_cases h : c
  · rw [if_pos h, if_pos (hc.mp h)]
    exact ha
  · rw [if_neg h, if_neg (fun z => h (hc.mpr z))]
    exact ha2
theorem lw_eb {X : mm_H} {Y : ez_E} {G : mm_H → Option mm_H} {g : ez_E → Option ez_E} (hx : X = tp1 Y) (hg : ∀ e, G (tp1 e) = (g e).bind fin) : (some X).bind G = ((some Y).bind g).bind fin := by
  rw [Option.bind_some, Option.bind_some, hx]
  exact hg Y
theorem lw_ec {x : Option mm_H} {y : Option ez_E} {G : mm_H → Option mm_H} {g : ez_E → Option ez_E} (hx : x = y.bind (fun e => some (tp1 e))) (hg : ∀ e, G (tp1 e) = (g e).bind fin) : x.bind G = (y.bind g).bind fin := by
  rw [hx]
  cases y with
  | none => rfl
  | some e => exact hg e
theorem lw_es {X Y : mm_H} {G : mm_H → Option mm_H} {b : Option ez_E} (hx : X = Y) (hg : G Y = b.bind fin) : (some X).bind G = b.bind fin := by
  rw [Option.bind_some, hx]
  exact hg
end
def ezX4_init (o : Nat) (p0 : Int32) (e : ez_E) : Option ez_E :=
if mm_kd (ez_n e) = (1, (Int32.toNatClampNeg ((mm_max 0 p0)))) ∧ ¬ ((mm_max 0 p0) : Int32) < 0 ∧ (Int32.toNatClampNeg ((mm_max 0 p0))) ≤ 60000 then
(some (ez_N e (Int32.toNatClampNeg ((mm_max 0 p0))))).bind (fun (e2 : ez_E) =>
if o < ez_n e2 then
(some (ez_R e2 o 0 (some ((ez_n e))))).bind (fun (e3 : ez_E) =>
some e3) else none) else none
theorem ezl4_init {I : Nat → Nat → Int32} (o : Nat) (p0 : Int32) (e : ez_E) : gX4_init o p0 (ez_t J D I e) = (ezX4_init o p0 e).bind (fun e => some (ez_t J D I e)) := by
  unfold gX4_init ezX4_init
  refine lw_ei Iff.rfl ?_
  refine lw_eb (tp1 := ez_t J D I) rfl (fun e2 => ?_)
  refine lw_ei Iff.rfl ?_
  refine lw_eb (tp1 := ez_t J D I) rfl (fun e3 => ?_)
  rfl
def ezX0_init (e : ez_E) : Option ez_E :=
if mm_kd (ez_n e) = (0, 4) then
(some (ez_N e 1)).bind (fun (e2 : ez_E) =>
(ezX4_init ((ez_n e)) 20 e2).bind (fun (e3 : ez_E) =>
if 347 < ez_n e3 then
(some (ez_R e3 347 1 (some ((ez_n e))))).bind (fun (e5 : ez_E) =>
if mm_kd (ez_n e5) = (0, 4) then
(some (ez_N e5 1)).bind (fun (e8 : ez_E) =>
(ezX4_init ((ez_n e5)) 20 e8).bind (fun (e9 : ez_E) =>
if 347 < ez_n e9 then
(some (ez_R e9 347 2 (some ((ez_n e5))))).bind (fun (e11 : ez_E) =>
some e11) else none)) else none) else none)) else none
theorem ezl0_init {I : Nat → Nat → Int32} (e : ez_E) : gX0_init (ez_t J D I e) = (ezX0_init e).bind (fun e => some (ez_t J D I e)) := by
  unfold gX0_init ezX0_init
  refine lw_ei Iff.rfl ?_
  refine lw_eb (tp1 := ez_t J D I) rfl (fun e2 => ?_)
  refine lw_ec (tp1 := ez_t J D I) (ezl4_init ((ez_n e)) 20 e2) (fun e3 => ?_)
  refine lw_ei Iff.rfl ?_
  refine lw_eb (tp1 := ez_t J D I) rfl (fun e5 => ?_)
  refine lw_ei Iff.rfl ?_
  refine lw_eb (tp1 := ez_t J D I) rfl (fun e8 => ?_)
  refine lw_ec (tp1 := ez_t J D I) (ezl4_init ((ez_n e5)) 20 e8) (fun e9 => ?_)
  refine lw_ei Iff.rfl ?_
  refine lw_eb (tp1 := ez_t J D I) rfl (fun e11 => ?_)
  rfl
def ezX1_init (o : Nat) (e : ez_E) : Option ez_E :=
if mm_kd (ez_n e) = (0, 4) then
(some (ez_N e 1)).bind (fun (e2 : ez_E) =>
(ezX4_init ((ez_n e)) 48 e2).bind (fun (e3 : ez_E) =>
if o < ez_n e3 then
(some (ez_R e3 o 1 (some ((ez_n e))))).bind (fun (e5 : ez_E) =>
if mm_kd (ez_n e5) = (0, 4) then
(some (ez_N e5 1)).bind (fun (e8 : ez_E) =>
(ezX4_init ((ez_n e5)) 8 e8).bind (fun (e9 : ez_E) =>
if o < ez_n e9 then
(some (ez_R e9 o 2 (some ((ez_n e5))))).bind (fun (e11 : ez_E) =>
if mm_kd (ez_n e11) = (0, 4) then
(some (ez_N e11 1)).bind (fun (e14 : ez_E) =>
(ezX4_init ((ez_n e11)) 8 e14).bind (fun (e15 : ez_E) =>
if o < ez_n e15 then
(some (ez_R e15 o 3 (some ((ez_n e11))))).bind (fun (e17 : ez_E) =>
some e17) else none)) else none) else none)) else none) else none)) else none
theorem ezl1_init {I : Nat → Nat → Int32} (o : Nat) (e : ez_E) : gX1_init o (ez_t J D I e) = (ezX1_init o e).bind (fun e => some (ez_t J D I e)) := by
  unfold gX1_init ezX1_init
  refine lw_ei Iff.rfl ?_
  refine lw_eb (tp1 := ez_t J D I) rfl (fun e2 => ?_)
  refine lw_ec (tp1 := ez_t J D I) (ezl4_init ((ez_n e)) 48 e2) (fun e3 => ?_)
  refine lw_ei Iff.rfl ?_
  refine lw_eb (tp1 := ez_t J D I) rfl (fun e5 => ?_)
  refine lw_ei Iff.rfl ?_
  refine lw_eb (tp1 := ez_t J D I) rfl (fun e8 => ?_)
  refine lw_ec (tp1 := ez_t J D I) (ezl4_init ((ez_n e5)) 8 e8) (fun e9 => ?_)
  refine lw_ei Iff.rfl ?_
  refine lw_eb (tp1 := ez_t J D I) rfl (fun e11 => ?_)
  refine lw_ei Iff.rfl ?_
  refine lw_eb (tp1 := ez_t J D I) rfl (fun e14 => ?_)
  refine lw_ec (tp1 := ez_t J D I) (ezl4_init ((ez_n e11)) 8 e14) (fun e15 => ?_)
  refine lw_ei Iff.rfl ?_
  refine lw_eb (tp1 := ez_t J D I) rfl (fun e17 => ?_)
  rfl
def ezX7_init (o : Nat) (e : ez_E) : Option ez_E :=
if mm_kd (ez_n e) = (0, 4) then
(some (ez_N e 1)).bind (fun (e2 : ez_E) =>
(ezX4_init ((ez_n e)) 20 e2).bind (fun (e3 : ez_E) =>
if o < ez_n e3 then
(some (ez_R e3 o 2 (some ((ez_n e))))).bind (fun (e5 : ez_E) =>
if mm_kd (ez_n e5) = (0, 4) then
(some (ez_N e5 1)).bind (fun (e8 : ez_E) =>
(ezX4_init ((ez_n e5)) 20 e8).bind (fun (e9 : ez_E) =>
if o < ez_n e9 then
(some (ez_R e9 o 3 (some ((ez_n e5))))).bind (fun (e11 : ez_E) =>
if mm_kd (ez_n e11) = (0, 4) then
(some (ez_N e11 1)).bind (fun (e14 : ez_E) =>
(ezX4_init ((ez_n e11)) 20 e14).bind (fun (e15 : ez_E) =>
if o < ez_n e15 then
(some (ez_R e15 o 4 (some ((ez_n e11))))).bind (fun (e17 : ez_E) =>
if mm_kd (ez_n e17) = (0, 4) then
(some (ez_N e17 1)).bind (fun (e20 : ez_E) =>
(ezX4_init ((ez_n e17)) 20 e20).bind (fun (e21 : ez_E) =>
if o < ez_n e21 then
(some (ez_R e21 o 5 (some ((ez_n e17))))).bind (fun (e23 : ez_E) =>
if mm_kd (ez_n e23) = (0, 4) then
(some (ez_N e23 1)).bind (fun (e26 : ez_E) =>
(ezX4_init ((ez_n e23)) 20 e26).bind (fun (e27 : ez_E) =>
if o < ez_n e27 then
(some (ez_R e27 o 6 (some ((ez_n e23))))).bind (fun (e29 : ez_E) =>
if mm_kd (ez_n e29) = (0, 4) then
(some (ez_N e29 1)).bind (fun (e32 : ez_E) =>
(ezX4_init ((ez_n e29)) 10 e32).bind (fun (e33 : ez_E) =>
if o < ez_n e33 then
(some (ez_R e33 o 8 (some ((ez_n e29))))).bind (fun (e35 : ez_E) =>
if mm_kd (ez_n e35) = (0, 4) then
(some (ez_N e35 1)).bind (fun (e38 : ez_E) =>
(ezX4_init ((ez_n e35)) 10 e38).bind (fun (e39 : ez_E) =>
if o < ez_n e39 then
(some (ez_R e39 o 9 (some ((ez_n e35))))).bind (fun (e41 : ez_E) =>
if mm_kd (ez_n e41) = (0, 4) then
(some (ez_N e41 1)).bind (fun (e44 : ez_E) =>
(ezX4_init ((ez_n e41)) 10 e44).bind (fun (e45 : ez_E) =>
if o < ez_n e45 then
(some (ez_R e45 o 10 (some ((ez_n e41))))).bind (fun (e47 : ez_E) =>
if mm_kd (ez_n e47) = (0, 4) then
(some (ez_N e47 1)).bind (fun (e50 : ez_E) =>
(ezX4_init ((ez_n e47)) 10 e50).bind (fun (e51 : ez_E) =>
if o < ez_n e51 then
(some (ez_R e51 o 11 (some ((ez_n e47))))).bind (fun (e53 : ez_E) =>
if mm_kd (ez_n e53) = (0, 4) then
(some (ez_N e53 1)).bind (fun (e56 : ez_E) =>
(ezX4_init ((ez_n e53)) 200 e56).bind (fun (e57 : ez_E) =>
if o < ez_n e57 then
(some (ez_R e57 o 12 (some ((ez_n e53))))).bind (fun (e59 : ez_E) =>
if mm_kd (ez_n e59) = (0, 4) then
(some (ez_N e59 1)).bind (fun (e62 : ez_E) =>
(ezX4_init ((ez_n e59)) 8 e62).bind (fun (e63 : ez_E) =>
if o < ez_n e63 then
(some (ez_R e63 o 13 (some ((ez_n e59))))).bind (fun (e65 : ez_E) =>
if mm_kd (ez_n e65) = (0, 4) then
(some (ez_N e65 1)).bind (fun (e68 : ez_E) =>
(ezX4_init ((ez_n e65)) 8 e68).bind (fun (e69 : ez_E) =>
if o < ez_n e69 then
(some (ez_R e69 o 14 (some ((ez_n e65))))).bind (fun (e71 : ez_E) =>
if mm_kd (ez_n e71) = (0, 4) then
(some (ez_N e71 1)).bind (fun (e74 : ez_E) =>
(ezX4_init ((ez_n e71)) 8 e74).bind (fun (e75 : ez_E) =>
if o < ez_n e75 then
(some (ez_R e75 o 15 (some ((ez_n e71))))).bind (fun (e77 : ez_E) =>
if mm_kd (ez_n e77) = (0, 4) then
(some (ez_N e77 1)).bind (fun (e80 : ez_E) =>
(ezX4_init ((ez_n e77)) 8 e80).bind (fun (e81 : ez_E) =>
if o < ez_n e81 then
(some (ez_R e81 o 16 (some ((ez_n e77))))).bind (fun (e83 : ez_E) =>
if mm_kd (ez_n e83) = (0, 4) then
(some (ez_N e83 1)).bind (fun (e86 : ez_E) =>
(ezX4_init ((ez_n e83)) 8 e86).bind (fun (e87 : ez_E) =>
if o < ez_n e87 then
(some (ez_R e87 o 17 (some ((ez_n e83))))).bind (fun (e89 : ez_E) =>
some e89) else none)) else none) else none)) else none) else none)) else none) else none)) else none) else none)) else none) else none)) else none) else none)) else none) else none)) else none) else none)) else none) else none)) else none) else none)) else none) else none)) else none) else none)) else none) else none)) else none) else none)) else none
theorem ezl7_init {I : Nat → Nat → Int32} (o : Nat) (e : ez_E) : gX7_init o (ez_t J D I e) = (ezX7_init o e).bind (fun e => some (ez_t J D I e)) := by
  unfold gX7_init ezX7_init
  refine lw_ei Iff.rfl ?_
  refine lw_eb (tp1 := ez_t J D I) rfl (fun e2 => ?_)
  refine lw_ec (tp1 := ez_t J D I) (ezl4_init ((ez_n e)) 20 e2) (fun e3 => ?_)
  refine lw_ei Iff.rfl ?_
  refine lw_eb (tp1 := ez_t J D I) rfl (fun e5 => ?_)
  refine lw_ei Iff.rfl ?_
  refine lw_eb (tp1 := ez_t J D I) rfl (fun e8 => ?_)
  refine lw_ec (tp1 := ez_t J D I) (ezl4_init ((ez_n e5)) 20 e8) (fun e9 => ?_)
  refine lw_ei Iff.rfl ?_
  refine lw_eb (tp1 := ez_t J D I) rfl (fun e11 => ?_)
  refine lw_ei Iff.rfl ?_
  refine lw_eb (tp1 := ez_t J D I) rfl (fun e14 => ?_)
  refine lw_ec (tp1 := ez_t J D I) (ezl4_init ((ez_n e11)) 20 e14) (fun e15 => ?_)
  refine lw_ei Iff.rfl ?_
  refine lw_eb (tp1 := ez_t J D I) rfl (fun e17 => ?_)
  refine lw_ei Iff.rfl ?_
  refine lw_eb (tp1 := ez_t J D I) rfl (fun e20 => ?_)
  refine lw_ec (tp1 := ez_t J D I) (ezl4_init ((ez_n e17)) 20 e20) (fun e21 => ?_)
  refine lw_ei Iff.rfl ?_
  refine lw_eb (tp1 := ez_t J D I) rfl (fun e23 => ?_)
  refine lw_ei Iff.rfl ?_
  refine lw_eb (tp1 := ez_t J D I) rfl (fun e26 => ?_)
  refine lw_ec (tp1 := ez_t J D I) (ezl4_init ((ez_n e23)) 20 e26) (fun e27 => ?_)
  refine lw_ei Iff.rfl ?_
  refine lw_eb (tp1 := ez_t J D I) rfl (fun e29 => ?_)
  refine lw_ei Iff.rfl ?_
  refine lw_eb (tp1 := ez_t J D I) rfl (fun e32 => ?_)
  refine lw_ec (tp1 := ez_t J D I) (ezl4_init ((ez_n e29)) 10 e32) (fun e33 => ?_)
  refine lw_ei Iff.rfl ?_
  refine lw_eb (tp1 := ez_t J D I) rfl (fun e35 => ?_)
  refine lw_ei Iff.rfl ?_
  refine lw_eb (tp1 := ez_t J D I) rfl (fun e38 => ?_)
  refine lw_ec (tp1 := ez_t J D I) (ezl4_init ((ez_n e35)) 10 e38) (fun e39 => ?_)
  refine lw_ei Iff.rfl ?_
  refine lw_eb (tp1 := ez_t J D I) rfl (fun e41 => ?_)
  refine lw_ei Iff.rfl ?_
  refine lw_eb (tp1 := ez_t J D I) rfl (fun e44 => ?_)
  refine lw_ec (tp1 := ez_t J D I) (ezl4_init ((ez_n e41)) 10 e44) (fun e45 => ?_)
  refine lw_ei Iff.rfl ?_
  refine lw_eb (tp1 := ez_t J D I) rfl (fun e47 => ?_)
  refine lw_ei Iff.rfl ?_
  refine lw_eb (tp1 := ez_t J D I) rfl (fun e50 => ?_)
  refine lw_ec (tp1 := ez_t J D I) (ezl4_init ((ez_n e47)) 10 e50) (fun e51 => ?_)
  refine lw_ei Iff.rfl ?_
  refine lw_eb (tp1 := ez_t J D I) rfl (fun e53 => ?_)
  refine lw_ei Iff.rfl ?_
  refine lw_eb (tp1 := ez_t J D I) rfl (fun e56 => ?_)
  refine lw_ec (tp1 := ez_t J D I) (ezl4_init ((ez_n e53)) 200 e56) (fun e57 => ?_)
  refine lw_ei Iff.rfl ?_
  refine lw_eb (tp1 := ez_t J D I) rfl (fun e59 => ?_)
  refine lw_ei Iff.rfl ?_
  refine lw_eb (tp1 := ez_t J D I) rfl (fun e62 => ?_)
  refine lw_ec (tp1 := ez_t J D I) (ezl4_init ((ez_n e59)) 8 e62) (fun e63 => ?_)
  refine lw_ei Iff.rfl ?_
  refine lw_eb (tp1 := ez_t J D I) rfl (fun e65 => ?_)
  refine lw_ei Iff.rfl ?_
  refine lw_eb (tp1 := ez_t J D I) rfl (fun e68 => ?_)
  refine lw_ec (tp1 := ez_t J D I) (ezl4_init ((ez_n e65)) 8 e68) (fun e69 => ?_)
  refine lw_ei Iff.rfl ?_
  refine lw_eb (tp1 := ez_t J D I) rfl (fun e71 => ?_)
  refine lw_ei Iff.rfl ?_
  refine lw_eb (tp1 := ez_t J D I) rfl (fun e74 => ?_)
  refine lw_ec (tp1 := ez_t J D I) (ezl4_init ((ez_n e71)) 8 e74) (fun e75 => ?_)
  refine lw_ei Iff.rfl ?_
  refine lw_eb (tp1 := ez_t J D I) rfl (fun e77 => ?_)
  refine lw_ei Iff.rfl ?_
  refine lw_eb (tp1 := ez_t J D I) rfl (fun e80 => ?_)
  refine lw_ec (tp1 := ez_t J D I) (ezl4_init ((ez_n e77)) 8 e80) (fun e81 => ?_)
  refine lw_ei Iff.rfl ?_
  refine lw_eb (tp1 := ez_t J D I) rfl (fun e83 => ?_)
  refine lw_ei Iff.rfl ?_
  refine lw_eb (tp1 := ez_t J D I) rfl (fun e86 => ?_)
  refine lw_ec (tp1 := ez_t J D I) (ezl4_init ((ez_n e83)) 8 e86) (fun e87 => ?_)
  refine lw_ei Iff.rfl ?_
  refine lw_eb (tp1 := ez_t J D I) rfl (fun e89 => ?_)
  rfl
def ezX6_init_L30 (o : Nat) : Nat → Int32 → ez_E → Option ez_E
  | 0, _, _ => none
  | n + 1, w11, e12 =>
    if o < ez_n e12 then
    if e12.2 o 0 = some ((o + 1)) then
    if (o + 1) < ez_n e12 then
    if w11 < (nI (mm_cap o)) then
    if o < ez_n e12 then
    if e12.2 o 0 = some ((o + 1)) then
    if mm_kd (ez_n e12) = (0, 7) then
    (some (ez_N e12 18)).bind (fun (e20 : ez_E) =>
    (ezX7_init ((ez_n e12)) e20).bind (fun (e21 : ez_E) =>
    if mm_ibd w11 (mm_cap o) = true then
    if (o + 1) < ez_n e21 then
    if (ez_n e12) < ez_n e21 then
    (some (ez_R e21 (o + 1) (Int32.toNatClampNeg (w11)) (some ((ez_n e12))))).bind (fun (e24 : ez_E) =>
    ezX6_init_L30 o n (w11 + 1) e24) else none else none else none)) else none else none else none
    else
    some e12 else none else none else none
theorem ezl6_init_L30 {I : Nat → Nat → Int32} (o : Nat) : ∀ (n : Nat) (w11 : Int32) (e : ez_E), gX6_init_L30 o n w11 (ez_t J D I e) = (ezX6_init_L30 o n w11 e).bind (fun e => some (ez_t J D I e)) := by
  intro n
  induction n with
  | zero => intro w11 e; rfl
  | succ n ih =>
    intro w11 e
    rw [gX6_init_L30, ezX6_init_L30]
    refine lw_ei Iff.rfl ?_
    refine lw_ei Iff.rfl ?_
    refine lw_ei Iff.rfl ?_
    refine lw_e2 Iff.rfl ?_ rfl
    refine lw_ei Iff.rfl ?_
    refine lw_ei Iff.rfl ?_
    refine lw_ei Iff.rfl ?_
    refine lw_eb (tp1 := ez_t J D I) rfl (fun e20 => ?_)
    refine lw_ec (tp1 := ez_t J D I) (ezl7_init (ez_n e) e20) (fun e21 => ?_)
    refine lw_ei Iff.rfl ?_
    refine lw_ei Iff.rfl ?_
    refine lw_ei Iff.rfl ?_
    refine lw_eb (tp1 := ez_t J D I) rfl (fun e24 => ?_)
    exact ih (w11 + 1) e24
def ezX6_init (o : Nat) (p0 : Int32) (e : ez_E) : Option ez_E :=
if mm_kd (ez_n e) = (6, (Int32.toNatClampNeg ((mm_max 0 p0)))) ∧ ¬ ((mm_max 0 p0) : Int32) < 0 ∧ (Int32.toNatClampNeg ((mm_max 0 p0))) ≤ 60000 then
(some (ez_N e (Int32.toNatClampNeg ((mm_max 0 p0))))).bind (fun (e2 : ez_E) =>
if o < ez_n e2 then
(some (ez_R e2 o 0 (some ((ez_n e))))).bind (fun (e3 : ez_E) =>
if mm_kd (ez_n e3) = (0, 4) then
(some (ez_N e3 1)).bind (fun (e6 : ez_E) =>
(ezX4_init ((ez_n e3)) p0 e6).bind (fun (e7 : ez_E) =>
if o < ez_n e7 then
(some (ez_R e7 o 1 (some ((ez_n e3))))).bind (fun (e9 : ez_E) =>
ezX6_init_L30 o mm_F 0 e9) else none)) else none) else none) else none
theorem ezl6_init {I : Nat → Nat → Int32} (o : Nat) (p0 : Int32) (e : ez_E) : gX6_init o p0 (ez_t J D I e) = (ezX6_init o p0 e).bind (fun e => some (ez_t J D I e)) := by
  unfold gX6_init ezX6_init
  refine lw_ei Iff.rfl ?_
  refine lw_eb (tp1 := ez_t J D I) rfl (fun e2 => ?_)
  refine lw_ei Iff.rfl ?_
  refine lw_eb (tp1 := ez_t J D I) rfl (fun e3 => ?_)
  refine lw_ei Iff.rfl ?_
  refine lw_eb (tp1 := ez_t J D I) rfl (fun e6 => ?_)
  refine lw_ec (tp1 := ez_t J D I) (ezl4_init ((ez_n e3)) p0 e6) (fun e7 => ?_)
  refine lw_ei Iff.rfl ?_
  refine lw_eb (tp1 := ez_t J D I) rfl (fun e9 => ?_)
  exact ezl6_init_L30 o mm_F 0 e9
def ezX2_init (e : ez_E) : Option ez_E :=
if mm_kd (ez_n e) = (0, 6) then
(some (ez_N e 2)).bind (fun (e2 : ez_E) =>
(ezX6_init ((ez_n e)) 6 e2).bind (fun (e3 : ez_E) =>
if 90 < ez_n e3 then
(some (ez_R e3 90 0 (some ((ez_n e))))).bind (fun (e5 : ez_E) =>
some e5) else none)) else none
theorem ezl2_init {I : Nat → Nat → Int32} (e : ez_E) : gX2_init (ez_t J D I e) = (ezX2_init e).bind (fun e => some (ez_t J D I e)) := by
  unfold gX2_init ezX2_init
  refine lw_ei Iff.rfl ?_
  refine lw_eb (tp1 := ez_t J D I) rfl (fun e2 => ?_)
  refine lw_ec (tp1 := ez_t J D I) (ezl6_init ((ez_n e)) 6 e2) (fun e3 => ?_)
  refine lw_ei Iff.rfl ?_
  refine lw_eb (tp1 := ez_t J D I) rfl (fun e5 => ?_)
  rfl
def ezX8_init (o : Nat) (p0 : Int32) (e : ez_E) : Option ez_E :=
if mm_kd (ez_n e) = (3, (Int32.toNatClampNeg ((mm_max 0 p0)))) ∧ ¬ ((mm_max 0 p0) : Int32) < 0 ∧ (Int32.toNatClampNeg ((mm_max 0 p0))) ≤ 60000 then
(some (ez_N e (Int32.toNatClampNeg ((mm_max 0 p0))))).bind (fun (e2 : ez_E) =>
if o < ez_n e2 then
(some (ez_R e2 o 0 (some ((ez_n e))))).bind (fun (e3 : ez_E) =>
some e3) else none) else none
theorem ezl8_init {I : Nat → Nat → Int32} (o : Nat) (p0 : Int32) (e : ez_E) : gX8_init o p0 (ez_t J D I e) = (ezX8_init o p0 e).bind (fun e => some (ez_t J D I e)) := by
  unfold gX8_init ezX8_init
  refine lw_ei Iff.rfl ?_
  refine lw_eb (tp1 := ez_t J D I) rfl (fun e2 => ?_)
  refine lw_ei Iff.rfl ?_
  refine lw_eb (tp1 := ez_t J D I) rfl (fun e3 => ?_)
  rfl
def ezX9_init (e : ez_E) : Option ez_E :=
if mm_kd (ez_n e) = (0, 8) then
(some (ez_N e 2)).bind (fun (e2 : ez_E) =>
(ezX8_init ((ez_n e)) 0 e2).bind (fun (e3 : ez_E) =>
if 6 < ez_n e3 then
(some (ez_R e3 6 0 (some ((ez_n e))))).bind (fun (e5 : ez_E) =>
some e5) else none)) else none
theorem ezl9_init {I : Nat → Nat → Int32} (e : ez_E) : gX9_init (ez_t J D I e) = (ezX9_init e).bind (fun e => some (ez_t J D I e)) := by
  unfold gX9_init ezX9_init
  refine lw_ei Iff.rfl ?_
  refine lw_eb (tp1 := ez_t J D I) rfl (fun e2 => ?_)
  refine lw_ec (tp1 := ez_t J D I) (ezl8_init ((ez_n e)) 0 e2) (fun e3 => ?_)
  refine lw_ei Iff.rfl ?_
  refine lw_eb (tp1 := ez_t J D I) rfl (fun e5 => ?_)
  rfl
def ezX3_init (e : ez_E) : Option ez_E :=
if ez_n e = 6 then
(some (ez_N e 5)).bind (fun (e2 : ez_E) =>
(ezX9_init e2).bind (fun (e3 : ez_E) =>
if 5 < ez_n e3 then
(some (ez_R e3 5 0 (some 6))).bind (fun (e5 : ez_E) =>
if 5 < ez_n e5 then
some e5 else none) else none)) else none
theorem ezl3_init {I : Nat → Nat → Int32} (e : ez_E) : gX3_init (ez_t J D I e) = (ezX3_init e).bind (fun e => some (ez_t J D (mm_up I 5 2 (-1)) e)) := by
  unfold gX3_init ezX3_init
  refine lw_ei Iff.rfl ?_
  refine lw_eb (tp1 := ez_t J D I) rfl (fun e2 => ?_)
  refine lw_ec (tp1 := ez_t J D I) (ezl9_init e2) (fun e3 => ?_)
  refine lw_ei Iff.rfl ?_
  refine lw_eb (tp1 := ez_t J D I) rfl (fun e5 => ?_)
  refine lw_ei Iff.rfl ?_
  refine lw_es (Y := ez_t J D (mm_up I 5 2 (-1)) e5) rfl ?_
  rfl
def ezX5_init (e : ez_E) : Option ez_E :=
if mm_kd (ez_n e) = (0, 4) then
(some (ez_N e 1)).bind (fun (e2 : ez_E) =>
(ezX4_init ((ez_n e)) 30 e2).bind (fun (e3 : ez_E) =>
if 9 < ez_n e3 then
(some (ez_R e3 9 2 (some ((ez_n e))))).bind (fun (e5 : ez_E) =>
if mm_kd (ez_n e5) = (0, 4) then
(some (ez_N e5 1)).bind (fun (e8 : ez_E) =>
(ezX4_init ((ez_n e5)) 120 e8).bind (fun (e9 : ez_E) =>
if 9 < ez_n e9 then
(some (ez_R e9 9 3 (some ((ez_n e5))))).bind (fun (e11 : ez_E) =>
some e11) else none)) else none) else none)) else none
theorem ezl5_init {I : Nat → Nat → Int32} (e : ez_E) : gX5_init (ez_t J D I e) = (ezX5_init e).bind (fun e => some (ez_t J D I e)) := by
  unfold gX5_init ezX5_init
  refine lw_ei Iff.rfl ?_
  refine lw_eb (tp1 := ez_t J D I) rfl (fun e2 => ?_)
  refine lw_ec (tp1 := ez_t J D I) (ezl4_init ((ez_n e)) 30 e2) (fun e3 => ?_)
  refine lw_ei Iff.rfl ?_
  refine lw_eb (tp1 := ez_t J D I) rfl (fun e5 => ?_)
  refine lw_ei Iff.rfl ?_
  refine lw_eb (tp1 := ez_t J D I) rfl (fun e8 => ?_)
  refine lw_ec (tp1 := ez_t J D I) (ezl4_init ((ez_n e5)) 120 e8) (fun e9 => ?_)
  refine lw_ei Iff.rfl ?_
  refine lw_eb (tp1 := ez_t J D I) rfl (fun e11 => ?_)
  rfl
def kc_X10 (h65 : mm_H) : Option mm_H :=
if 0 < mh_n h65 then
if mh_R h65 0 4 = some 14 then
if mm_chk 352 7 h65 = true then
(gX1_addProduct 14 0 20 h65).bind (fun (h70 : mm_H) =>
(gX1_addProduct 14 1 50 h70).bind (fun (h72 : mm_H) =>
(gX1_addProduct 14 2 10 h72).bind (fun (h74 : mm_H) =>
(gX7_addBatch 21 0 30 5 12 h74).bind (fun (x76 : (Int32 × mm_H)) =>
(gX7_addBatch 21 0 20 3 10 x76.2).bind (fun (x78 : (Int32 × mm_H)) =>
(gX7_addBatch 21 1 100 200 4 x78.2).bind (fun (x80 : (Int32 × mm_H)) =>
(gX7_addBatch 21 2 24 9 3 x80.2).bind (fun (x82 : (Int32 × mm_H)) =>
if mh_c x82.2 = mh_n x82.2 then
some x82.2 else none))))))) else none else none else none
def ezX10_init (e : ez_E) : Option ez_E :=
if mm_kd (ez_n e) = (0, 8) then
(some (ez_N e 2)).bind (fun (e2 : ez_E) =>
(ezX8_init ((ez_n e)) 600 e2).bind (fun (e3 : ez_E) =>
if 0 < ez_n e3 then
(some (ez_R e3 0 0 (some ((ez_n e))))).bind (fun (e5 : ez_E) =>
if mm_kd (ez_n e5) = (0, 8) then
(some (ez_N e5 2)).bind (fun (e8 : ez_E) =>
(ezX8_init ((ez_n e5)) 199 e8).bind (fun (e9 : ez_E) =>
if 0 < ez_n e9 then
(some (ez_R e9 0 1 (some ((ez_n e5))))).bind (fun (e11 : ez_E) =>
if ez_n e11 = 5 then
(some (ez_N e11 3)).bind (fun (e14 : ez_E) =>
(ezX3_init e14).bind (fun (e15 : ez_E) =>
if 0 < ez_n e15 then
(some (ez_R e15 0 2 (some 5))).bind (fun (e17 : ez_E) =>
if ez_n e17 = 9 then
(some (ez_N e17 4)).bind (fun (e20 : ez_E) =>
(ezX5_init e20).bind (fun (e21 : ez_E) =>
if 0 < ez_n e21 then
(some (ez_R e21 0 3 (some 9))).bind (fun (e23 : ez_E) =>
if mm_kd (ez_n e23) = (0, 1) then
(some (ez_N e23 4)).bind (fun (e26 : ez_E) =>
(ezX1_init ((ez_n e23)) e26).bind (fun (e27 : ez_E) =>
if 0 < ez_n e27 then
(some (ez_R e27 0 4 (some ((ez_n e23))))).bind (fun (e29 : ez_E) =>
if mm_kd (ez_n e29) = (0, 7) then
(some (ez_N e29 18)).bind (fun (e32 : ez_E) =>
(ezX7_init ((ez_n e29)) e32).bind (fun (e33 : ez_E) =>
if 0 < ez_n e33 then
(some (ez_R e33 0 5 (some ((ez_n e29))))).bind (fun (e35 : ez_E) =>
if mm_kd (ez_n e35) = (0, 1) then
(some (ez_N e35 4)).bind (fun (e38 : ez_E) =>
(ezX1_init ((ez_n e35)) e38).bind (fun (e39 : ez_E) =>
if 0 < ez_n e39 then
(some (ez_R e39 0 6 (some ((ez_n e35))))).bind (fun (e41 : ez_E) =>
if mm_kd (ez_n e41) = (0, 7) then
(some (ez_N e41 18)).bind (fun (e44 : ez_E) =>
(ezX7_init ((ez_n e41)) e44).bind (fun (e45 : ez_E) =>
if 0 < ez_n e45 then
(some (ez_R e45 0 7 (some ((ez_n e41))))).bind (fun (e47 : ez_E) =>
if ez_n e47 = 90 then
(some (ez_N e47 3)).bind (fun (e50 : ez_E) =>
(ezX2_init e50).bind (fun (e51 : ez_E) =>
if 0 < ez_n e51 then
(some (ez_R e51 0 8 (some 90))).bind (fun (e53 : ez_E) =>
if mm_kd (ez_n e53) = (0, 6) then
(some (ez_N e53 2)).bind (fun (e56 : ez_E) =>
(ezX6_init ((ez_n e53)) 2 e56).bind (fun (e57 : ez_E) =>
if 0 < ez_n e57 then
(some (ez_R e57 0 9 (some ((ez_n e53))))).bind (fun (e59 : ez_E) =>
if ez_n e59 = 347 then
(some (ez_N e59 3)).bind (fun (e62 : ez_E) =>
(ezX0_init e62).bind (fun (e63 : ez_E) =>
if 0 < ez_n e63 then
(some (ez_R e63 0 10 (some 347))).bind (fun (e65 : ez_E) =>
some e65) else none)) else none) else none)) else none) else none)) else none) else none)) else none) else none)) else none) else none)) else none) else none)) else none) else none)) else none) else none)) else none) else none)) else none) else none)) else none
theorem ezl10_init {I : Nat → Nat → Int32} (e : ez_E) : gX10_init (ez_t J D I e) = (ezX10_init e).bind (fun e => kc_X10 (ez_t J D (mm_up I 5 2 (-1)) e)) := by
  unfold gX10_init ezX10_init
  refine lw_ei Iff.rfl ?_
  refine lw_eb (tp1 := ez_t J D I) rfl (fun e2 => ?_)
  refine lw_ec (tp1 := ez_t J D I) (ezl8_init ((ez_n e)) 600 e2) (fun e3 => ?_)
  refine lw_ei Iff.rfl ?_
  refine lw_eb (tp1 := ez_t J D I) rfl (fun e5 => ?_)
  refine lw_ei Iff.rfl ?_
  refine lw_eb (tp1 := ez_t J D I) rfl (fun e8 => ?_)
  refine lw_ec (tp1 := ez_t J D I) (ezl8_init ((ez_n e5)) 199 e8) (fun e9 => ?_)
  refine lw_ei Iff.rfl ?_
  refine lw_eb (tp1 := ez_t J D I) rfl (fun e11 => ?_)
  refine lw_ei Iff.rfl ?_
  refine lw_eb (tp1 := ez_t J D I) rfl (fun e14 => ?_)
  refine lw_ec (tp1 := ez_t J D (mm_up I 5 2 (-1))) (ezl3_init e14) (fun e15 => ?_)
  refine lw_ei Iff.rfl ?_
  refine lw_eb (tp1 := ez_t J D (mm_up I 5 2 (-1))) rfl (fun e17 => ?_)
  refine lw_ei Iff.rfl ?_
  refine lw_eb (tp1 := ez_t J D (mm_up I 5 2 (-1))) rfl (fun e20 => ?_)
  refine lw_ec (tp1 := ez_t J D (mm_up I 5 2 (-1))) (ezl5_init e20) (fun e21 => ?_)
  refine lw_ei Iff.rfl ?_
  refine lw_eb (tp1 := ez_t J D (mm_up I 5 2 (-1))) rfl (fun e23 => ?_)
  refine lw_ei Iff.rfl ?_
  refine lw_eb (tp1 := ez_t J D (mm_up I 5 2 (-1))) rfl (fun e26 => ?_)
  refine lw_ec (tp1 := ez_t J D (mm_up I 5 2 (-1))) (ezl1_init ((ez_n e23)) e26) (fun e27 => ?_)
  refine lw_ei Iff.rfl ?_
  refine lw_eb (tp1 := ez_t J D (mm_up I 5 2 (-1))) rfl (fun e29 => ?_)
  refine lw_ei Iff.rfl ?_
  refine lw_eb (tp1 := ez_t J D (mm_up I 5 2 (-1))) rfl (fun e32 => ?_)
  refine lw_ec (tp1 := ez_t J D (mm_up I 5 2 (-1))) (ezl7_init ((ez_n e29)) e32) (fun e33 => ?_)
  refine lw_ei Iff.rfl ?_
  refine lw_eb (tp1 := ez_t J D (mm_up I 5 2 (-1))) rfl (fun e35 => ?_)
  refine lw_ei Iff.rfl ?_
  refine lw_eb (tp1 := ez_t J D (mm_up I 5 2 (-1))) rfl (fun e38 => ?_)
  refine lw_ec (tp1 := ez_t J D (mm_up I 5 2 (-1))) (ezl1_init ((ez_n e35)) e38) (fun e39 => ?_)
  refine lw_ei Iff.rfl ?_
  refine lw_eb (tp1 := ez_t J D (mm_up I 5 2 (-1))) rfl (fun e41 => ?_)
  refine lw_ei Iff.rfl ?_
  refine lw_eb (tp1 := ez_t J D (mm_up I 5 2 (-1))) rfl (fun e44 => ?_)
  refine lw_ec (tp1 := ez_t J D (mm_up I 5 2 (-1))) (ezl7_init ((ez_n e41)) e44) (fun e45 => ?_)
  refine lw_ei Iff.rfl ?_
  refine lw_eb (tp1 := ez_t J D (mm_up I 5 2 (-1))) rfl (fun e47 => ?_)
  refine lw_ei Iff.rfl ?_
  refine lw_eb (tp1 := ez_t J D (mm_up I 5 2 (-1))) rfl (fun e50 => ?_)
  refine lw_ec (tp1 := ez_t J D (mm_up I 5 2 (-1))) (ezl2_init e50) (fun e51 => ?_)
  refine lw_ei Iff.rfl ?_
  refine lw_eb (tp1 := ez_t J D (mm_up I 5 2 (-1))) rfl (fun e53 => ?_)
  refine lw_ei Iff.rfl ?_
  refine lw_eb (tp1 := ez_t J D (mm_up I 5 2 (-1))) rfl (fun e56 => ?_)
  refine lw_ec (tp1 := ez_t J D (mm_up I 5 2 (-1))) (ezl6_init ((ez_n e53)) 2 e56) (fun e57 => ?_)
  refine lw_ei Iff.rfl ?_
  refine lw_eb (tp1 := ez_t J D (mm_up I 5 2 (-1))) rfl (fun e59 => ?_)
  refine lw_ei Iff.rfl ?_
  refine lw_eb (tp1 := ez_t J D (mm_up I 5 2 (-1))) rfl (fun e62 => ?_)
  refine lw_ec (tp1 := ez_t J D (mm_up I 5 2 (-1))) (ezl0_init e62) (fun e63 => ?_)
  refine lw_ei Iff.rfl ?_
  refine lw_eb (tp1 := ez_t J D (mm_up I 5 2 (-1))) rfl (fun e65 => ?_)
  rfl
end PRJ
