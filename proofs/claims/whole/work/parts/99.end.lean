theorem zq_end : True := trivial
