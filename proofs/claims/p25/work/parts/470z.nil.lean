theorem tn_nil : True := trivial
