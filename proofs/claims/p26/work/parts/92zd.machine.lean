/-! a walk, as a machine: how many rules are under way, their places, which, how far; how many letters are made, which; how often it came where -/
/-- which child a call means -/
def w_ch (A : Nat → Int) (p f z : Int) : Int := if 2 ≤ A p.toNat ∧ 2 < f then 1 - (z - 10) % 2 else (z - 10) % 2
section
variable {A : Nat → Int} {p : Int} {lt sg nd rk : Int → Int} {bl : Int → Int → Int} {D : Int → Prop}
end
