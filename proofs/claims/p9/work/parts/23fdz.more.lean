/-- what is said of a case alone, so that it is not split at every step -/
def zImp (P A : Prop) : Prop := P → A
