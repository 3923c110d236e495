/-- a principal minor of size k, by its columns -/
def pmT (A : Nat → Nat → Int) (k c : Nat) : Int := if pc6 c = k then mnr A k c c else 0
