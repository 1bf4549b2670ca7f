theorem xq_last : True := trivial
