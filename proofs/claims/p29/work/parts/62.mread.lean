def mSzf (s : Int32) (i : Nat) (a : Int32) : Int32 := a + ((s >>> (nI i &&& 31)) &&& 1)
def mSize (s : Int32) : Int32 := lp (mSzf s) 0 30 0
