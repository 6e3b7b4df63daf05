theorem not_of {p : Prop} (h : p) : ¬ ¬ p := fun z => z h
def eAdd (V : View) (a l s d t : Int32) : Nat := if ¬ isNd V a then 1 else if ¬ (inW l 1 500 ∧ inW s 0 50 ∧ inW d 0 500 ∧ inW t 0 1200) then 2 else if vN V = 16 then 3 else 0
def eDraw (V : View) (n d t : Int32) : Nat := if ¬ isPp V n then 1 else if ¬ (inW d 0 500 ∧ inW t 0 1200) then 2 else 0
def eLeak (V : View) (n k : Int32) : Nat := if ¬ isPp V n then 1 else if ¬ inW k 0 100 then 2 else 0
def eTemp (s k : Int32) : Nat := if ¬ (inW s 400 1200 ∧ inW k (-200) 300) then 1 else 0
def eNode (V : View) (n w : Int32) : Nat := if ¬ isNd V n then 1 else if ¬ inW w 0 11 then 2 else 0
def eHeat (V : View) (n w : Int32) : Nat := if ¬ isPp V n then 1 else if ¬ inW w 0 5 then 2 else 0
def eIn (w a b : Int32) : Nat := if ¬ inW w a b then 1 else 0
def eBoi (V : View) (a l s : Int32) : Nat := if ¬ (inW a 1 9999999 ∧ inW l 0 a ∧ inW s 0 99) then 1 else if vB V = 4 then 2 else 0
def eCost (V : View) (b x : Int32) : Nat := if ¬ isBo V b then 1 else if ¬ inW x 0 99 then 2 else 0
def eBoiler (V : View) (b w : Int32) : Nat := if ¬ isBo V b then 1 else if ¬ inW w 0 4 then 2 else 0
def eTar (a b d : Int32) : Nat := if ¬ (inW a 0 999 ∧ inW b 0 1200 ∧ inW d 0 99) then 1 else 0
def ePass (V : View) (h : Int32) : Nat := if ¬ inW h 1 100 then 1 else if 200 < vS V 8 + h then 2 else 0
def eNd (V : View) (n : Int32) : Nat := if ¬ isNd V n then 1 else 0
def ePp (V : View) (n : Int32) : Nat := if ¬ isPp V n then 1 else 0
def eSup (V : View) (n w : Int32) : Nat := if ¬ isPp V n then 1 else if ¬ inW w (-200) 1200 then 2 else 0
def eApp (len : Nat) (x : Int32) : Nat := if ¬ inW x 0 127 then 1 else if len = 180 then 2 else 0
def eUndo (Hs : List View) : Nat := if Hs.length = 0 then 1 else 0

theorem wfZ_of {V : View} (h : wfV V) : wfZ V := by
  sorry
