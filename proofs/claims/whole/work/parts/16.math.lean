/-! wb -/
variable {wb : Bool}
/-! THE DOCUMENT'S OWN WORDS AS FUNCTIONS -/
def jf_notch (kind change lacking : Int) : Int := if kind = 2 ∨ kind = 4 then (if change < lacking then 3 else 1) else if kind = 1 ∨ kind = 3 then 1 else if kind = 5 then 3 else 2
def jf_often (kind more late said : Int) : Int := if kind = 5 then 1 + (late * more).tdiv 3 else if kind = 3 then (if 1 < late then 0 else said + 1) else if kind = 2 ∨ kind = 4 then (if late = 0 then 0 else said + more.tdiv 4) else said
def jf_touch (kind more lacking : Int) : Int := if kind = 4 then (if 10 < lacking then 3 + more.tdiv 3 else 1) else 0
theorem jf_td (a b : Int) (ha : 0 ≤ a) : a.tdiv b = a / b := Int.tdiv_eq_ediv_of_nonneg ha
theorem jf_tm (a b : Int) (ha : 0 ≤ a) : a.tmod b = a % b := Int.tmod_eq_emod_of_nonneg ha
