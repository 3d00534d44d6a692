/-! What was there before the walk: outside objects' fields (which object, declarer, name, descriptor, value), outside arrays (which, type, length, contents), statics, texts by their places, outside objects' classes. 0: ArrayList's empty array. -/
def xOF : List (Nat × String × String × String × (Nat ⊕ Nat ⊕ Value)) := []
def xT : List (Nat × FieldType × Nat × List Int32) := []
def xZ : List (String × String × String × (Nat ⊕ Nat ⊕ Value)) := []
def xR : List (String × Nat × String × Nat) := []
def xO : List (Nat × String) := []
